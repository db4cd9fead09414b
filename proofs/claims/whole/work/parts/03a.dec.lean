theorem dX0_init_0 : decode cX0_init 0 = .ok (.aload_n 0, 1) := by decide +kernel
theorem dX0_init_1 : decode cX0_init 1 = .ok (.invokespecial 3, 3) := by decide +kernel
theorem dX0_init_4 : decode cX0_init 4 = .ok (.aload_n 0, 1) := by decide +kernel
theorem dX0_init_5 : decode cX0_init 5 = .ok (.iconst 0, 1) := by decide +kernel
theorem dX0_init_6 : decode cX0_init 6 = .ok (.putfield 9, 3) := by decide +kernel
theorem dX0_init_9 : decode cX0_init 9 = .ok (.aload_n 0, 1) := by decide +kernel
theorem dX0_init_10 : decode cX0_init 10 = .ok (.iconst 0, 1) := by decide +kernel
theorem dX0_init_11 : decode cX0_init 11 = .ok (.putfield 15, 3) := by decide +kernel
theorem dX0_init_14 : decode cX0_init 14 = .ok (.aload_n 0, 1) := by decide +kernel
theorem dX0_init_15 : decode cX0_init 15 = .ok (.iconst 0, 1) := by decide +kernel
theorem dX0_init_16 : decode cX0_init 16 = .ok (.putfield 18, 3) := by decide +kernel
theorem dX0_init_19 : decode cX0_init 19 = .ok (.aload_n 0, 1) := by decide +kernel
theorem dX0_init_20 : decode cX0_init 20 = .ok (.iconst 0, 1) := by decide +kernel
theorem dX0_init_21 : decode cX0_init 21 = .ok (.putfield 21, 3) := by decide +kernel
theorem dX0_init_24 : decode cX0_init 24 = .ok (.aload_n 0, 1) := by decide +kernel
theorem dX0_init_25 : decode cX0_init 25 = .ok (.iconst 0, 1) := by decide +kernel
theorem dX0_init_26 : decode cX0_init 26 = .ok (.putfield 24, 3) := by decide +kernel
theorem dX0_init_29 : decode cX0_init 29 = .ok (.aload_n 0, 1) := by decide +kernel
theorem dX0_init_30 : decode cX0_init 30 = .ok (.iconst 0, 1) := by decide +kernel
theorem dX0_init_31 : decode cX0_init 31 = .ok (.putfield 27, 3) := by decide +kernel
theorem dX0_init_34 : decode cX0_init 34 = .ok (.aload_n 0, 1) := by decide +kernel
theorem dX0_init_35 : decode cX0_init 35 = .ok (.iconst 0, 1) := by decide +kernel
theorem dX0_init_36 : decode cX0_init 36 = .ok (.putfield 30, 3) := by decide +kernel
theorem dX0_init_39 : decode cX0_init 39 = .ok (.aload_n 0, 1) := by decide +kernel
theorem dX0_init_40 : decode cX0_init 40 = .ok (.iconst 0, 1) := by decide +kernel
theorem dX0_init_41 : decode cX0_init 41 = .ok (.putfield 33, 3) := by decide +kernel
theorem dX0_init_44 : decode cX0_init 44 = .ok (.aload_n 0, 1) := by decide +kernel
theorem dX0_init_45 : decode cX0_init 45 = .ok (.bipush (-9), 2) := by decide +kernel
theorem dX0_init_47 : decode cX0_init 47 = .ok (.putfield 36, 3) := by decide +kernel
theorem dX0_init_50 : decode cX0_init 50 = .ok (.aload_n 0, 1) := by decide +kernel
theorem dX0_init_51 : decode cX0_init 51 = .ok (.iconst 0, 1) := by decide +kernel
theorem dX0_init_52 : decode cX0_init 52 = .ok (.putfield 39, 3) := by decide +kernel
theorem dX0_init_55 : decode cX0_init 55 = .ok (.aload_n 0, 1) := by decide +kernel
theorem dX0_init_56 : decode cX0_init 56 = .ok (.iconst 0, 1) := by decide +kernel
theorem dX0_init_57 : decode cX0_init 57 = .ok (.putfield 42, 3) := by decide +kernel
theorem dX0_init_60 : decode cX0_init 60 = .ok (.aload_n 0, 1) := by decide +kernel
theorem dX0_init_61 : decode cX0_init 61 = .ok (.iconst 0, 1) := by decide +kernel
theorem dX0_init_62 : decode cX0_init 62 = .ok (.putfield 45, 3) := by decide +kernel
theorem dX0_init_65 : decode cX0_init 65 = .ok (.aload_n 0, 1) := by decide +kernel
theorem dX0_init_66 : decode cX0_init 66 = .ok (.iconst 0, 1) := by decide +kernel
theorem dX0_init_67 : decode cX0_init 67 = .ok (.putfield 48, 3) := by decide +kernel
theorem dX0_init_70 : decode cX0_init 70 = .ok (.aload_n 0, 1) := by decide +kernel
theorem dX0_init_71 : decode cX0_init 71 = .ok (.iconst 0, 1) := by decide +kernel
theorem dX0_init_72 : decode cX0_init 72 = .ok (.putfield 51, 3) := by decide +kernel
theorem dX0_init_75 : decode cX0_init 75 = .ok (.aload_n 0, 1) := by decide +kernel
theorem dX0_init_76 : decode cX0_init 76 = .ok (.iconst 0, 1) := by decide +kernel
theorem dX0_init_77 : decode cX0_init 77 = .ok (.putfield 54, 3) := by decide +kernel
theorem dX0_init_80 : decode cX0_init 80 = .ok (.aload_n 0, 1) := by decide +kernel
theorem dX0_init_81 : decode cX0_init 81 = .ok (.bipush (-9), 2) := by decide +kernel
theorem dX0_init_83 : decode cX0_init 83 = .ok (.putfield 57, 3) := by decide +kernel
theorem dX0_init_86 : decode cX0_init 86 = .ok (.aload_n 0, 1) := by decide +kernel
theorem dX0_init_87 : decode cX0_init 87 = .ok (.iconst 0, 1) := by decide +kernel
theorem dX0_init_88 : decode cX0_init 88 = .ok (.putfield 60, 3) := by decide +kernel
theorem dX0_init_91 : decode cX0_init 91 = .ok (.aload_n 0, 1) := by decide +kernel
theorem dX0_init_92 : decode cX0_init 92 = .ok (.iconst 0, 1) := by decide +kernel
theorem dX0_init_93 : decode cX0_init 93 = .ok (.putfield 63, 3) := by decide +kernel
theorem dX0_init_96 : decode cX0_init 96 = .ok (.aload_n 0, 1) := by decide +kernel
theorem dX0_init_97 : decode cX0_init 97 = .ok (.iconst 0, 1) := by decide +kernel
theorem dX0_init_98 : decode cX0_init 98 = .ok (.putfield 66, 3) := by decide +kernel
theorem dX0_init_101 : decode cX0_init 101 = .ok (.aload_n 0, 1) := by decide +kernel
theorem dX0_init_102 : decode cX0_init 102 = .ok (.iconst 4, 1) := by decide +kernel
theorem dX0_init_103 : decode cX0_init 103 = .ok (.newarray .int, 2) := by decide +kernel
theorem dX0_init_105 : decode cX0_init 105 = .ok (.putfield 69, 3) := by decide +kernel
theorem dX0_init_108 : decode cX0_init 108 = .ok (.return_, 1) := by decide +kernel
theorem dX0_fact_0 : decode cX0_fact 0 = .ok (.iload_n 1, 1) := by decide +kernel
theorem dX0_fact_1 : decode cX0_fact 1 = .ok (.tableswitch 69 0 5 #[39, 44, 49, 54, 59, 64], 39) := by decide +kernel
theorem dX0_fact_40 : decode cX0_fact 40 = .ok (.aload_n 0, 1) := by decide +kernel
theorem dX0_fact_41 : decode cX0_fact 41 = .ok (.getfield 33, 3) := by decide +kernel
theorem dX0_fact_44 : decode cX0_fact 44 = .ok (.ireturn, 1) := by decide +kernel
theorem dX0_fact_45 : decode cX0_fact 45 = .ok (.aload_n 0, 1) := by decide +kernel
theorem dX0_fact_46 : decode cX0_fact 46 = .ok (.getfield 39, 3) := by decide +kernel
theorem dX0_fact_49 : decode cX0_fact 49 = .ok (.ireturn, 1) := by decide +kernel
theorem dX0_fact_50 : decode cX0_fact 50 = .ok (.aload_n 0, 1) := by decide +kernel
theorem dX0_fact_51 : decode cX0_fact 51 = .ok (.getfield 24, 3) := by decide +kernel
theorem dX0_fact_54 : decode cX0_fact 54 = .ok (.ireturn, 1) := by decide +kernel
theorem dX0_fact_55 : decode cX0_fact 55 = .ok (.aload_n 0, 1) := by decide +kernel
theorem dX0_fact_56 : decode cX0_fact 56 = .ok (.getfield 54, 3) := by decide +kernel
theorem dX0_fact_59 : decode cX0_fact 59 = .ok (.ireturn, 1) := by decide +kernel
theorem dX0_fact_60 : decode cX0_fact 60 = .ok (.aload_n 0, 1) := by decide +kernel
theorem dX0_fact_61 : decode cX0_fact 61 = .ok (.getfield 27, 3) := by decide +kernel
theorem dX0_fact_64 : decode cX0_fact 64 = .ok (.ireturn, 1) := by decide +kernel
theorem dX0_fact_65 : decode cX0_fact 65 = .ok (.aload_n 0, 1) := by decide +kernel
theorem dX0_fact_66 : decode cX0_fact 66 = .ok (.getfield 36, 3) := by decide +kernel
theorem dX0_fact_69 : decode cX0_fact 69 = .ok (.ireturn, 1) := by decide +kernel
theorem dX0_fact_70 : decode cX0_fact 70 = .ok (.aload_n 0, 1) := by decide +kernel
theorem dX0_fact_71 : decode cX0_fact 71 = .ok (.getfield 48, 3) := by decide +kernel
theorem dX0_fact_74 : decode cX0_fact 74 = .ok (.ireturn, 1) := by decide +kernel
theorem dX0_streamFact_0 : decode cX0_streamFact 0 = .ok (.iload_n 1, 1) := by decide +kernel
theorem dX0_streamFact_1 : decode cX0_streamFact 1 = .ok (.lookupswitch 37 #[(0, 27), (1, 32)], 27) := by decide +kernel
theorem dX0_streamFact_28 : decode cX0_streamFact 28 = .ok (.aload_n 0, 1) := by decide +kernel
theorem dX0_streamFact_29 : decode cX0_streamFact 29 = .ok (.getfield 60, 3) := by decide +kernel
theorem dX0_streamFact_32 : decode cX0_streamFact 32 = .ok (.ireturn, 1) := by decide +kernel
theorem dX0_streamFact_33 : decode cX0_streamFact 33 = .ok (.aload_n 0, 1) := by decide +kernel
theorem dX0_streamFact_34 : decode cX0_streamFact 34 = .ok (.getfield 63, 3) := by decide +kernel
theorem dX0_streamFact_37 : decode cX0_streamFact 37 = .ok (.ireturn, 1) := by decide +kernel
theorem dX0_streamFact_38 : decode cX0_streamFact 38 = .ok (.aload_n 0, 1) := by decide +kernel
theorem dX0_streamFact_39 : decode cX0_streamFact 39 = .ok (.getfield 66, 3) := by decide +kernel
theorem dX0_streamFact_42 : decode cX0_streamFact 42 = .ok (.ireturn, 1) := by decide +kernel
theorem dX0_share_0 : decode cX0_share 0 = .ok (.aload_n 0, 1) := by decide +kernel
theorem dX0_share_1 : decode cX0_share 1 = .ok (.getfield 48, 3) := by decide +kernel
theorem dX0_share_4 : decode cX0_share 4 = .ok (.ifCond .eq 8, 3) := by decide +kernel
theorem dX0_share_7 : decode cX0_share 7 = .ok (.aload_n 0, 1) := by decide +kernel
theorem dX0_share_8 : decode cX0_share 8 = .ok (.getfield 48, 3) := by decide +kernel
theorem dX0_share_11 : decode cX0_share 11 = .ok (.ireturn, 1) := by decide +kernel
theorem dX0_share_12 : decode cX0_share 12 = .ok (.aload_n 0, 1) := by decide +kernel
theorem dX0_share_13 : decode cX0_share 13 = .ok (.getfield 45, 3) := by decide +kernel
theorem dX0_share_16 : decode cX0_share 16 = .ok (.ifCond .le 7, 3) := by decide +kernel
theorem dX0_share_19 : decode cX0_share 19 = .ok (.iconst 0, 1) := by decide +kernel
theorem dX0_share_20 : decode cX0_share 20 = .ok (.goto 4, 3) := by decide +kernel
theorem dX0_share_23 : decode cX0_share 23 = .ok (.iconst 3, 1) := by decide +kernel
theorem dX0_share_24 : decode cX0_share 24 = .ok (.ireturn, 1) := by decide +kernel
theorem dX1_init_0 : decode cX1_init 0 = .ok (.aload_n 0, 1) := by decide +kernel
theorem dX1_init_1 : decode cX1_init 1 = .ok (.invokespecial 3, 3) := by decide +kernel
theorem dX1_init_4 : decode cX1_init 4 = .ok (.aload_n 0, 1) := by decide +kernel
theorem dX1_init_5 : decode cX1_init 5 = .ok (.iconst 0, 1) := by decide +kernel
theorem dX1_init_6 : decode cX1_init 6 = .ok (.putfield 9, 3) := by decide +kernel
theorem dX1_init_9 : decode cX1_init 9 = .ok (.aload_n 0, 1) := by decide +kernel
theorem dX1_init_10 : decode cX1_init 10 = .ok (.iconst 0, 1) := by decide +kernel
theorem dX1_init_11 : decode cX1_init 11 = .ok (.putfield 15, 3) := by decide +kernel
theorem dX1_init_14 : decode cX1_init 14 = .ok (.aload_n 0, 1) := by decide +kernel
theorem dX1_init_15 : decode cX1_init 15 = .ok (.iconst 0, 1) := by decide +kernel
theorem dX1_init_16 : decode cX1_init 16 = .ok (.putfield 18, 3) := by decide +kernel
theorem dX1_init_19 : decode cX1_init 19 = .ok (.aload_n 0, 1) := by decide +kernel
theorem dX1_init_20 : decode cX1_init 20 = .ok (.sipush 690, 3) := by decide +kernel
theorem dX1_init_23 : decode cX1_init 23 = .ok (.newarray .int, 2) := by decide +kernel
theorem dX1_init_25 : decode cX1_init 25 = .ok (.putfield 21, 3) := by decide +kernel
theorem dX1_init_28 : decode cX1_init 28 = .ok (.aload_n 0, 1) := by decide +kernel
theorem dX1_init_29 : decode cX1_init 29 = .ok (.sipush 690, 3) := by decide +kernel
theorem dX1_init_32 : decode cX1_init 32 = .ok (.newarray .int, 2) := by decide +kernel
theorem dX1_init_34 : decode cX1_init 34 = .ok (.putfield 25, 3) := by decide +kernel
theorem dX1_init_37 : decode cX1_init 37 = .ok (.aload_n 0, 1) := by decide +kernel
theorem dX1_init_38 : decode cX1_init 38 = .ok (.sipush 690, 3) := by decide +kernel
theorem dX1_init_41 : decode cX1_init 41 = .ok (.newarray .int, 2) := by decide +kernel
theorem dX1_init_43 : decode cX1_init 43 = .ok (.putfield 28, 3) := by decide +kernel
theorem dX1_init_46 : decode cX1_init 46 = .ok (.aload_n 0, 1) := by decide +kernel
theorem dX1_init_47 : decode cX1_init 47 = .ok (.sipush 690, 3) := by decide +kernel
theorem dX1_init_50 : decode cX1_init 50 = .ok (.newarray .int, 2) := by decide +kernel
theorem dX1_init_52 : decode cX1_init 52 = .ok (.putfield 31, 3) := by decide +kernel
theorem dX1_init_55 : decode cX1_init 55 = .ok (.aload_n 0, 1) := by decide +kernel
theorem dX1_init_56 : decode cX1_init 56 = .ok (.sipush 690, 3) := by decide +kernel
theorem dX1_init_59 : decode cX1_init 59 = .ok (.newarray .int, 2) := by decide +kernel
theorem dX1_init_61 : decode cX1_init 61 = .ok (.putfield 34, 3) := by decide +kernel
theorem dX1_init_64 : decode cX1_init 64 = .ok (.aload_n 0, 1) := by decide +kernel
theorem dX1_init_65 : decode cX1_init 65 = .ok (.sipush 690, 3) := by decide +kernel
theorem dX1_init_68 : decode cX1_init 68 = .ok (.newarray .int, 2) := by decide +kernel
theorem dX1_init_70 : decode cX1_init 70 = .ok (.putfield 37, 3) := by decide +kernel
theorem dX1_init_73 : decode cX1_init 73 = .ok (.aload_n 0, 1) := by decide +kernel
theorem dX1_init_74 : decode cX1_init 74 = .ok (.sipush 690, 3) := by decide +kernel
theorem dX1_init_77 : decode cX1_init 77 = .ok (.newarray .int, 2) := by decide +kernel
theorem dX1_init_79 : decode cX1_init 79 = .ok (.putfield 40, 3) := by decide +kernel
theorem dX1_init_82 : decode cX1_init 82 = .ok (.return_, 1) := by decide +kernel
theorem dX1_add_0 : decode cX1_add 0 = .ok (.aload_n 0, 1) := by decide +kernel
theorem dX1_add_1 : decode cX1_add 1 = .ok (.getfield 9, 3) := by decide +kernel
theorem dX1_add_4 : decode cX1_add 4 = .ok (.sipush 690, 3) := by decide +kernel
theorem dX1_add_7 : decode cX1_add 7 = .ok (.if_icmp .lt 6, 3) := by decide +kernel
theorem dX1_add_10 : decode cX1_add 10 = .ok (.bipush (-2), 2) := by decide +kernel
theorem dX1_add_12 : decode cX1_add 12 = .ok (.ireturn, 1) := by decide +kernel
theorem dX1_add_13 : decode cX1_add 13 = .ok (.aload_n 0, 1) := by decide +kernel
theorem dX1_add_14 : decode cX1_add 14 = .ok (.getfield 9, 3) := by decide +kernel
theorem dX1_add_17 : decode cX1_add 17 = .ok (.istore 7, 2) := by decide +kernel
theorem dX1_add_19 : decode cX1_add 19 = .ok (.aload_n 0, 1) := by decide +kernel
theorem dX1_add_20 : decode cX1_add 20 = .ok (.getfield 21, 3) := by decide +kernel
theorem dX1_add_23 : decode cX1_add 23 = .ok (.iload 7, 2) := by decide +kernel
theorem dX1_add_25 : decode cX1_add 25 = .ok (.iload_n 1, 1) := by decide +kernel
theorem dX1_add_26 : decode cX1_add 26 = .ok (.iastore, 1) := by decide +kernel
theorem dX1_add_27 : decode cX1_add 27 = .ok (.aload_n 0, 1) := by decide +kernel
theorem dX1_add_28 : decode cX1_add 28 = .ok (.getfield 25, 3) := by decide +kernel
theorem dX1_add_31 : decode cX1_add 31 = .ok (.iload 7, 2) := by decide +kernel
theorem dX1_add_33 : decode cX1_add 33 = .ok (.iload_n 2, 1) := by decide +kernel
theorem dX1_add_34 : decode cX1_add 34 = .ok (.iastore, 1) := by decide +kernel
theorem dX1_add_35 : decode cX1_add 35 = .ok (.aload_n 0, 1) := by decide +kernel
theorem dX1_add_36 : decode cX1_add 36 = .ok (.getfield 28, 3) := by decide +kernel
theorem dX1_add_39 : decode cX1_add 39 = .ok (.iload 7, 2) := by decide +kernel
theorem dX1_add_41 : decode cX1_add 41 = .ok (.iload_n 3, 1) := by decide +kernel
theorem dX1_add_42 : decode cX1_add 42 = .ok (.iastore, 1) := by decide +kernel
theorem dX1_add_43 : decode cX1_add 43 = .ok (.aload_n 0, 1) := by decide +kernel
theorem dX1_add_44 : decode cX1_add 44 = .ok (.getfield 31, 3) := by decide +kernel
theorem dX1_add_47 : decode cX1_add 47 = .ok (.iload 7, 2) := by decide +kernel
theorem dX1_add_49 : decode cX1_add 49 = .ok (.iload 4, 2) := by decide +kernel
theorem dX1_add_51 : decode cX1_add 51 = .ok (.iastore, 1) := by decide +kernel
theorem dX1_add_52 : decode cX1_add 52 = .ok (.aload_n 0, 1) := by decide +kernel
theorem dX1_add_53 : decode cX1_add 53 = .ok (.getfield 34, 3) := by decide +kernel
theorem dX1_add_56 : decode cX1_add 56 = .ok (.iload 7, 2) := by decide +kernel
theorem dX1_add_58 : decode cX1_add 58 = .ok (.iconst 0, 1) := by decide +kernel
theorem dX1_add_59 : decode cX1_add 59 = .ok (.iastore, 1) := by decide +kernel
theorem dX1_add_60 : decode cX1_add 60 = .ok (.aload_n 0, 1) := by decide +kernel
theorem dX1_add_61 : decode cX1_add 61 = .ok (.getfield 37, 3) := by decide +kernel
theorem dX1_add_64 : decode cX1_add 64 = .ok (.iload 7, 2) := by decide +kernel
theorem dX1_add_66 : decode cX1_add 66 = .ok (.iload 5, 2) := by decide +kernel
theorem dX1_add_68 : decode cX1_add 68 = .ok (.iastore, 1) := by decide +kernel
theorem dX1_add_69 : decode cX1_add 69 = .ok (.aload_n 0, 1) := by decide +kernel
theorem dX1_add_70 : decode cX1_add 70 = .ok (.getfield 40, 3) := by decide +kernel
theorem dX1_add_73 : decode cX1_add 73 = .ok (.iload 7, 2) := by decide +kernel
theorem dX1_add_75 : decode cX1_add 75 = .ok (.iload 6, 2) := by decide +kernel
theorem dX1_add_77 : decode cX1_add 77 = .ok (.iastore, 1) := by decide +kernel
theorem dX1_add_78 : decode cX1_add 78 = .ok (.aload_n 0, 1) := by decide +kernel
theorem dX1_add_79 : decode cX1_add 79 = .ok (.dup, 1) := by decide +kernel
theorem dX1_add_80 : decode cX1_add 80 = .ok (.getfield 9, 3) := by decide +kernel
theorem dX1_add_83 : decode cX1_add 83 = .ok (.iconst 1, 1) := by decide +kernel
theorem dX1_add_84 : decode cX1_add 84 = .ok (.iadd, 1) := by decide +kernel
theorem dX1_add_85 : decode cX1_add 85 = .ok (.putfield 9, 3) := by decide +kernel
theorem dX1_add_88 : decode cX1_add 88 = .ok (.iload 7, 2) := by decide +kernel
theorem dX1_add_90 : decode cX1_add 90 = .ok (.ireturn, 1) := by decide +kernel
theorem dX1_fact_0 : decode cX1_fact 0 = .ok (.iload_n 2, 1) := by decide +kernel
theorem dX1_fact_1 : decode cX1_fact 1 = .ok (.tableswitch 59 0 3 #[31, 38, 45, 52], 31) := by decide +kernel
theorem dX1_fact_32 : decode cX1_fact 32 = .ok (.aload_n 0, 1) := by decide +kernel
theorem dX1_fact_33 : decode cX1_fact 33 = .ok (.getfield 21, 3) := by decide +kernel
theorem dX1_fact_36 : decode cX1_fact 36 = .ok (.iload_n 1, 1) := by decide +kernel
theorem dX1_fact_37 : decode cX1_fact 37 = .ok (.iaload, 1) := by decide +kernel
theorem dX1_fact_38 : decode cX1_fact 38 = .ok (.ireturn, 1) := by decide +kernel
theorem dX1_fact_39 : decode cX1_fact 39 = .ok (.aload_n 0, 1) := by decide +kernel
theorem dX1_fact_40 : decode cX1_fact 40 = .ok (.getfield 25, 3) := by decide +kernel
theorem dX1_fact_43 : decode cX1_fact 43 = .ok (.iload_n 1, 1) := by decide +kernel
theorem dX1_fact_44 : decode cX1_fact 44 = .ok (.iaload, 1) := by decide +kernel
theorem dX1_fact_45 : decode cX1_fact 45 = .ok (.ireturn, 1) := by decide +kernel
theorem dX1_fact_46 : decode cX1_fact 46 = .ok (.aload_n 0, 1) := by decide +kernel
theorem dX1_fact_47 : decode cX1_fact 47 = .ok (.getfield 28, 3) := by decide +kernel
theorem dX1_fact_50 : decode cX1_fact 50 = .ok (.iload_n 1, 1) := by decide +kernel
theorem dX1_fact_51 : decode cX1_fact 51 = .ok (.iaload, 1) := by decide +kernel
theorem dX1_fact_52 : decode cX1_fact 52 = .ok (.ireturn, 1) := by decide +kernel
theorem dX1_fact_53 : decode cX1_fact 53 = .ok (.aload_n 0, 1) := by decide +kernel
theorem dX1_fact_54 : decode cX1_fact 54 = .ok (.getfield 31, 3) := by decide +kernel
theorem dX1_fact_57 : decode cX1_fact 57 = .ok (.iload_n 1, 1) := by decide +kernel
theorem dX1_fact_58 : decode cX1_fact 58 = .ok (.iaload, 1) := by decide +kernel
theorem dX1_fact_59 : decode cX1_fact 59 = .ok (.ireturn, 1) := by decide +kernel
theorem dX1_fact_60 : decode cX1_fact 60 = .ok (.aload_n 0, 1) := by decide +kernel
theorem dX1_fact_61 : decode cX1_fact 61 = .ok (.getfield 34, 3) := by decide +kernel
theorem dX1_fact_64 : decode cX1_fact 64 = .ok (.iload_n 1, 1) := by decide +kernel
theorem dX1_fact_65 : decode cX1_fact 65 = .ok (.iaload, 1) := by decide +kernel
theorem dX1_fact_66 : decode cX1_fact 66 = .ok (.ireturn, 1) := by decide +kernel
theorem dX1_isOf_0 : decode cX1_isOf 0 = .ok (.aload_n 0, 1) := by decide +kernel
theorem dX1_isOf_1 : decode cX1_isOf 1 = .ok (.getfield 21, 3) := by decide +kernel
theorem dX1_isOf_4 : decode cX1_isOf 4 = .ok (.iload_n 1, 1) := by decide +kernel
theorem dX1_isOf_5 : decode cX1_isOf 5 = .ok (.iaload, 1) := by decide +kernel
theorem dX1_isOf_6 : decode cX1_isOf 6 = .ok (.istore_n 3, 1) := by decide +kernel
theorem dX1_isOf_7 : decode cX1_isOf 7 = .ok (.iload_n 3, 1) := by decide +kernel
theorem dX1_isOf_8 : decode cX1_isOf 8 = .ok (.iload_n 2, 1) := by decide +kernel
theorem dX1_isOf_9 : decode cX1_isOf 9 = .ok (.if_icmp .eq 24, 3) := by decide +kernel
theorem dX1_isOf_12 : decode cX1_isOf 12 = .ok (.iload_n 3, 1) := by decide +kernel
theorem dX1_isOf_13 : decode cX1_isOf 13 = .ok (.iconst 3, 1) := by decide +kernel
theorem dX1_isOf_14 : decode cX1_isOf 14 = .ok (.if_icmp .ne 8, 3) := by decide +kernel
theorem dX1_isOf_17 : decode cX1_isOf 17 = .ok (.iload_n 2, 1) := by decide +kernel
theorem dX1_isOf_18 : decode cX1_isOf 18 = .ok (.iconst 2, 1) := by decide +kernel
theorem dX1_isOf_19 : decode cX1_isOf 19 = .ok (.if_icmp .eq 14, 3) := by decide +kernel
theorem dX1_isOf_22 : decode cX1_isOf 22 = .ok (.iload_n 3, 1) := by decide +kernel
theorem dX1_isOf_23 : decode cX1_isOf 23 = .ok (.bipush 6, 2) := by decide +kernel
theorem dX1_isOf_25 : decode cX1_isOf 25 = .ok (.if_icmp .ne 12, 3) := by decide +kernel
theorem dX1_isOf_28 : decode cX1_isOf 28 = .ok (.iload_n 2, 1) := by decide +kernel
theorem dX1_isOf_29 : decode cX1_isOf 29 = .ok (.iconst 1, 1) := by decide +kernel
theorem dX1_isOf_30 : decode cX1_isOf 30 = .ok (.if_icmp .ne 7, 3) := by decide +kernel
theorem dX1_isOf_33 : decode cX1_isOf 33 = .ok (.iconst 1, 1) := by decide +kernel
theorem dX1_isOf_34 : decode cX1_isOf 34 = .ok (.goto 4, 3) := by decide +kernel
theorem dX1_isOf_37 : decode cX1_isOf 37 = .ok (.iconst 0, 1) := by decide +kernel
theorem dX1_isOf_38 : decode cX1_isOf 38 = .ok (.ireturn, 1) := by decide +kernel
theorem dX1_tells_0 : decode cX1_tells 0 = .ok (.iload_n 2, 1) := by decide +kernel
theorem dX1_tells_1 : decode cX1_tells 1 = .ok (.iconst 1, 1) := by decide +kernel
theorem dX1_tells_2 : decode cX1_tells 2 = .ok (.if_icmp .eq 8, 3) := by decide +kernel
theorem dX1_tells_5 : decode cX1_tells 5 = .ok (.iload_n 2, 1) := by decide +kernel
theorem dX1_tells_6 : decode cX1_tells 6 = .ok (.iconst 2, 1) := by decide +kernel
theorem dX1_tells_7 : decode cX1_tells 7 = .ok (.if_icmp .ne 12, 3) := by decide +kernel
theorem dX1_tells_10 : decode cX1_tells 10 = .ok (.aload_n 0, 1) := by decide +kernel
theorem dX1_tells_11 : decode cX1_tells 11 = .ok (.getfield 37, 3) := by decide +kernel
theorem dX1_tells_14 : decode cX1_tells 14 = .ok (.iload_n 1, 1) := by decide +kernel
theorem dX1_tells_15 : decode cX1_tells 15 = .ok (.iaload, 1) := by decide +kernel
theorem dX1_tells_16 : decode cX1_tells 16 = .ok (.goto 9, 3) := by decide +kernel
theorem dX1_tells_19 : decode cX1_tells 19 = .ok (.aload_n 0, 1) := by decide +kernel
theorem dX1_tells_20 : decode cX1_tells 20 = .ok (.getfield 40, 3) := by decide +kernel
theorem dX1_tells_23 : decode cX1_tells 23 = .ok (.iload_n 1, 1) := by decide +kernel
theorem dX1_tells_24 : decode cX1_tells 24 = .ok (.iaload, 1) := by decide +kernel
theorem dX1_tells_25 : decode cX1_tells 25 = .ok (.ireturn, 1) := by decide +kernel
theorem dX2_init_0 : decode cX2_init 0 = .ok (.aload_n 0, 1) := by decide +kernel
theorem dX2_init_1 : decode cX2_init 1 = .ok (.invokespecial 3, 3) := by decide +kernel
theorem dX2_init_4 : decode cX2_init 4 = .ok (.aload_n 0, 1) := by decide +kernel
theorem dX2_init_5 : decode cX2_init 5 = .ok (.iconst 0, 1) := by decide +kernel
theorem dX2_init_6 : decode cX2_init 6 = .ok (.putfield 9, 3) := by decide +kernel
theorem dX2_init_9 : decode cX2_init 9 = .ok (.aload_n 0, 1) := by decide +kernel
theorem dX2_init_10 : decode cX2_init 10 = .ok (.bipush 20, 2) := by decide +kernel
theorem dX2_init_12 : decode cX2_init 12 = .ok (.newarray .int, 2) := by decide +kernel
theorem dX2_init_14 : decode cX2_init 14 = .ok (.putfield 15, 3) := by decide +kernel
theorem dX2_init_17 : decode cX2_init 17 = .ok (.aload_n 0, 1) := by decide +kernel
theorem dX2_init_18 : decode cX2_init 18 = .ok (.bipush 20, 2) := by decide +kernel
theorem dX2_init_20 : decode cX2_init 20 = .ok (.newarray .int, 2) := by decide +kernel
theorem dX2_init_22 : decode cX2_init 22 = .ok (.putfield 19, 3) := by decide +kernel
theorem dX2_init_25 : decode cX2_init 25 = .ok (.aload_n 0, 1) := by decide +kernel
theorem dX2_init_26 : decode cX2_init 26 = .ok (.bipush 20, 2) := by decide +kernel
theorem dX2_init_28 : decode cX2_init 28 = .ok (.newarray .int, 2) := by decide +kernel
theorem dX2_init_30 : decode cX2_init 30 = .ok (.putfield 22, 3) := by decide +kernel
theorem dX2_init_33 : decode cX2_init 33 = .ok (.return_, 1) := by decide +kernel
theorem dX2_breakLine_0 : decode cX2_breakLine 0 = .ok (.aload_n 0, 1) := by decide +kernel
theorem dX2_breakLine_1 : decode cX2_breakLine 1 = .ok (.getfield 9, 3) := by decide +kernel
theorem dX2_breakLine_4 : decode cX2_breakLine 4 = .ok (.bipush 20, 2) := by decide +kernel
theorem dX2_breakLine_6 : decode cX2_breakLine 6 = .ok (.if_icmp .ge 48, 3) := by decide +kernel
theorem dX2_breakLine_9 : decode cX2_breakLine 9 = .ok (.aload_n 0, 1) := by decide +kernel
theorem dX2_breakLine_10 : decode cX2_breakLine 10 = .ok (.getfield 15, 3) := by decide +kernel
theorem dX2_breakLine_13 : decode cX2_breakLine 13 = .ok (.aload_n 0, 1) := by decide +kernel
theorem dX2_breakLine_14 : decode cX2_breakLine 14 = .ok (.getfield 9, 3) := by decide +kernel
theorem dX2_breakLine_17 : decode cX2_breakLine 17 = .ok (.iload_n 1, 1) := by decide +kernel
theorem dX2_breakLine_18 : decode cX2_breakLine 18 = .ok (.iload_n 2, 1) := by decide +kernel
theorem dX2_breakLine_19 : decode cX2_breakLine 19 = .ok (.invokestatic 25, 3) := by decide +kernel
theorem dX2_breakLine_22 : decode cX2_breakLine 22 = .ok (.iastore, 1) := by decide +kernel
theorem dX2_breakLine_23 : decode cX2_breakLine 23 = .ok (.aload_n 0, 1) := by decide +kernel
theorem dX2_breakLine_24 : decode cX2_breakLine 24 = .ok (.getfield 19, 3) := by decide +kernel
theorem dX2_breakLine_27 : decode cX2_breakLine 27 = .ok (.aload_n 0, 1) := by decide +kernel
theorem dX2_breakLine_28 : decode cX2_breakLine 28 = .ok (.getfield 9, 3) := by decide +kernel
theorem dX2_breakLine_31 : decode cX2_breakLine 31 = .ok (.iload_n 3, 1) := by decide +kernel
theorem dX2_breakLine_32 : decode cX2_breakLine 32 = .ok (.iastore, 1) := by decide +kernel
theorem dX2_breakLine_33 : decode cX2_breakLine 33 = .ok (.aload_n 0, 1) := by decide +kernel
theorem dX2_breakLine_34 : decode cX2_breakLine 34 = .ok (.getfield 22, 3) := by decide +kernel
theorem dX2_breakLine_37 : decode cX2_breakLine 37 = .ok (.aload_n 0, 1) := by decide +kernel
theorem dX2_breakLine_38 : decode cX2_breakLine 38 = .ok (.getfield 9, 3) := by decide +kernel
theorem dX2_breakLine_41 : decode cX2_breakLine 41 = .ok (.iload 4, 2) := by decide +kernel
theorem dX2_breakLine_43 : decode cX2_breakLine 43 = .ok (.iastore, 1) := by decide +kernel
theorem dX2_breakLine_44 : decode cX2_breakLine 44 = .ok (.aload_n 0, 1) := by decide +kernel
theorem dX2_breakLine_45 : decode cX2_breakLine 45 = .ok (.dup, 1) := by decide +kernel
theorem dX2_breakLine_46 : decode cX2_breakLine 46 = .ok (.getfield 9, 3) := by decide +kernel
theorem dX2_breakLine_49 : decode cX2_breakLine 49 = .ok (.iconst 1, 1) := by decide +kernel
theorem dX2_breakLine_50 : decode cX2_breakLine 50 = .ok (.iadd, 1) := by decide +kernel
theorem dX2_breakLine_51 : decode cX2_breakLine 51 = .ok (.putfield 9, 3) := by decide +kernel
theorem dX2_breakLine_54 : decode cX2_breakLine 54 = .ok (.return_, 1) := by decide +kernel
theorem dX2_isBroken_0 : decode cX2_isBroken 0 = .ok (.iload_n 1, 1) := by decide +kernel
theorem dX2_isBroken_1 : decode cX2_isBroken 1 = .ok (.iload_n 2, 1) := by decide +kernel
theorem dX2_isBroken_2 : decode cX2_isBroken 2 = .ok (.invokestatic 25, 3) := by decide +kernel
theorem dX2_isBroken_5 : decode cX2_isBroken 5 = .ok (.istore 4, 2) := by decide +kernel
theorem dX2_isBroken_7 : decode cX2_isBroken 7 = .ok (.iconst 0, 1) := by decide +kernel
theorem dX2_isBroken_8 : decode cX2_isBroken 8 = .ok (.istore 5, 2) := by decide +kernel
theorem dX2_isBroken_10 : decode cX2_isBroken 10 = .ok (.iload 5, 2) := by decide +kernel
theorem dX2_isBroken_12 : decode cX2_isBroken 12 = .ok (.aload_n 0, 1) := by decide +kernel
theorem dX2_isBroken_13 : decode cX2_isBroken 13 = .ok (.getfield 9, 3) := by decide +kernel
theorem dX2_isBroken_16 : decode cX2_isBroken 16 = .ok (.if_icmp .ge 45, 3) := by decide +kernel
theorem dX2_isBroken_19 : decode cX2_isBroken 19 = .ok (.aload_n 0, 1) := by decide +kernel
theorem dX2_isBroken_20 : decode cX2_isBroken 20 = .ok (.getfield 15, 3) := by decide +kernel
theorem dX2_isBroken_23 : decode cX2_isBroken 23 = .ok (.iload 5, 2) := by decide +kernel
theorem dX2_isBroken_25 : decode cX2_isBroken 25 = .ok (.iaload, 1) := by decide +kernel
theorem dX2_isBroken_26 : decode cX2_isBroken 26 = .ok (.iload 4, 2) := by decide +kernel
theorem dX2_isBroken_28 : decode cX2_isBroken 28 = .ok (.if_icmp .ne 27, 3) := by decide +kernel
theorem dX2_isBroken_31 : decode cX2_isBroken 31 = .ok (.aload_n 0, 1) := by decide +kernel
theorem dX2_isBroken_32 : decode cX2_isBroken 32 = .ok (.getfield 19, 3) := by decide +kernel
theorem dX2_isBroken_35 : decode cX2_isBroken 35 = .ok (.iload 5, 2) := by decide +kernel
theorem dX2_isBroken_37 : decode cX2_isBroken 37 = .ok (.iaload, 1) := by decide +kernel
theorem dX2_isBroken_38 : decode cX2_isBroken 38 = .ok (.iload_n 3, 1) := by decide +kernel
theorem dX2_isBroken_39 : decode cX2_isBroken 39 = .ok (.if_icmp .gt 16, 3) := by decide +kernel
theorem dX2_isBroken_42 : decode cX2_isBroken 42 = .ok (.iload_n 3, 1) := by decide +kernel
theorem dX2_isBroken_43 : decode cX2_isBroken 43 = .ok (.aload_n 0, 1) := by decide +kernel
theorem dX2_isBroken_44 : decode cX2_isBroken 44 = .ok (.getfield 22, 3) := by decide +kernel
theorem dX2_isBroken_47 : decode cX2_isBroken 47 = .ok (.iload 5, 2) := by decide +kernel
theorem dX2_isBroken_49 : decode cX2_isBroken 49 = .ok (.iaload, 1) := by decide +kernel
theorem dX2_isBroken_50 : decode cX2_isBroken 50 = .ok (.if_icmp .gt 5, 3) := by decide +kernel
theorem dX2_isBroken_53 : decode cX2_isBroken 53 = .ok (.iconst 1, 1) := by decide +kernel
theorem dX2_isBroken_54 : decode cX2_isBroken 54 = .ok (.ireturn, 1) := by decide +kernel
theorem dX2_isBroken_55 : decode cX2_isBroken 55 = .ok (.iinc 5 1, 3) := by decide +kernel
theorem dX2_isBroken_58 : decode cX2_isBroken 58 = .ok (.goto (-48), 3) := by decide +kernel
theorem dX2_isBroken_61 : decode cX2_isBroken 61 = .ok (.iconst 0, 1) := by decide +kernel
theorem dX2_isBroken_62 : decode cX2_isBroken 62 = .ok (.ireturn, 1) := by decide +kernel
theorem dX2_lineOf_0 : decode cX2_lineOf 0 = .ok (.iload_n 0, 1) := by decide +kernel
theorem dX2_lineOf_1 : decode cX2_lineOf 1 = .ok (.iload_n 1, 1) := by decide +kernel
theorem dX2_lineOf_2 : decode cX2_lineOf 2 = .ok (.invokestatic 29, 3) := by decide +kernel
theorem dX2_lineOf_5 : decode cX2_lineOf 5 = .ok (.bipush 6, 2) := by decide +kernel
theorem dX2_lineOf_7 : decode cX2_lineOf 7 = .ok (.imul, 1) := by decide +kernel
theorem dX2_lineOf_8 : decode cX2_lineOf 8 = .ok (.iload_n 0, 1) := by decide +kernel
theorem dX2_lineOf_9 : decode cX2_lineOf 9 = .ok (.iload_n 1, 1) := by decide +kernel
theorem dX2_lineOf_10 : decode cX2_lineOf 10 = .ok (.invokestatic 34, 3) := by decide +kernel
theorem dX2_lineOf_13 : decode cX2_lineOf 13 = .ok (.iadd, 1) := by decide +kernel
theorem dX2_lineOf_14 : decode cX2_lineOf 14 = .ok (.ireturn, 1) := by decide +kernel
theorem dX3_init_0 : decode cX3_init 0 = .ok (.aload_n 0, 1) := by decide +kernel
theorem dX3_init_1 : decode cX3_init 1 = .ok (.invokespecial 3, 3) := by decide +kernel
theorem dX3_init_4 : decode cX3_init 4 = .ok (.aload_n 0, 1) := by decide +kernel
theorem dX3_init_5 : decode cX3_init 5 = .ok (.bipush 6, 2) := by decide +kernel
theorem dX3_init_7 : decode cX3_init 7 = .ok (.anewarray 9, 3) := by decide +kernel
theorem dX3_init_10 : decode cX3_init 10 = .ok (.putfield 11, 3) := by decide +kernel
theorem dX3_init_13 : decode cX3_init 13 = .ok (.aload_n 0, 1) := by decide +kernel
theorem dX3_init_14 : decode cX3_init 14 = .ok (.bipush 30, 2) := by decide +kernel
theorem dX3_init_16 : decode cX3_init 16 = .ok (.anewarray 17, 3) := by decide +kernel
theorem dX3_init_19 : decode cX3_init 19 = .ok (.putfield 19, 3) := by decide +kernel
theorem dX3_init_22 : decode cX3_init 22 = .ok (.aload_n 0, 1) := by decide +kernel
theorem dX3_init_23 : decode cX3_init 23 = .ok (.new 23, 3) := by decide +kernel
theorem dX3_init_26 : decode cX3_init 26 = .ok (.dup, 1) := by decide +kernel
theorem dX3_init_27 : decode cX3_init 27 = .ok (.invokespecial 25, 3) := by decide +kernel
theorem dX3_init_30 : decode cX3_init 30 = .ok (.putfield 26, 3) := by decide +kernel
theorem dX3_init_33 : decode cX3_init 33 = .ok (.aload_n 0, 1) := by decide +kernel
theorem dX3_init_34 : decode cX3_init 34 = .ok (.new 30, 3) := by decide +kernel
theorem dX3_init_37 : decode cX3_init 37 = .ok (.dup, 1) := by decide +kernel
theorem dX3_init_38 : decode cX3_init 38 = .ok (.invokespecial 32, 3) := by decide +kernel
theorem dX3_init_41 : decode cX3_init 41 = .ok (.putfield 33, 3) := by decide +kernel
theorem dX3_init_44 : decode cX3_init 44 = .ok (.aload_n 0, 1) := by decide +kernel
theorem dX3_init_45 : decode cX3_init 45 = .ok (.iconst 0, 1) := by decide +kernel
theorem dX3_init_46 : decode cX3_init 46 = .ok (.putfield 37, 3) := by decide +kernel
theorem dX3_init_49 : decode cX3_init 49 = .ok (.aload_n 0, 1) := by decide +kernel
theorem dX3_init_50 : decode cX3_init 50 = .ok (.iconst 0, 1) := by decide +kernel
theorem dX3_init_51 : decode cX3_init 51 = .ok (.putfield 41, 3) := by decide +kernel
theorem dX3_init_54 : decode cX3_init 54 = .ok (.aload_n 0, 1) := by decide +kernel
theorem dX3_init_55 : decode cX3_init 55 = .ok (.iconst 0, 1) := by decide +kernel
theorem dX3_init_56 : decode cX3_init 56 = .ok (.putfield 44, 3) := by decide +kernel
theorem dX3_init_59 : decode cX3_init 59 = .ok (.aload_n 0, 1) := by decide +kernel
theorem dX3_init_60 : decode cX3_init 60 = .ok (.iconst 0, 1) := by decide +kernel
theorem dX3_init_61 : decode cX3_init 61 = .ok (.putfield 47, 3) := by decide +kernel
theorem dX3_init_64 : decode cX3_init 64 = .ok (.aload_n 0, 1) := by decide +kernel
theorem dX3_init_65 : decode cX3_init 65 = .ok (.iconst 0, 1) := by decide +kernel
theorem dX3_init_66 : decode cX3_init 66 = .ok (.putfield 50, 3) := by decide +kernel
theorem dX3_init_69 : decode cX3_init 69 = .ok (.iconst 0, 1) := by decide +kernel
theorem dX3_init_70 : decode cX3_init 70 = .ok (.istore_n 1, 1) := by decide +kernel
theorem dX3_init_71 : decode cX3_init 71 = .ok (.iload_n 1, 1) := by decide +kernel
theorem dX3_init_72 : decode cX3_init 72 = .ok (.bipush 6, 2) := by decide +kernel
theorem dX3_init_74 : decode cX3_init 74 = .ok (.if_icmp .ge 22, 3) := by decide +kernel
theorem dX3_init_77 : decode cX3_init 77 = .ok (.aload_n 0, 1) := by decide +kernel
theorem dX3_init_78 : decode cX3_init 78 = .ok (.getfield 11, 3) := by decide +kernel
theorem dX3_init_81 : decode cX3_init 81 = .ok (.iload_n 1, 1) := by decide +kernel
theorem dX3_init_82 : decode cX3_init 82 = .ok (.new 9, 3) := by decide +kernel
theorem dX3_init_85 : decode cX3_init 85 = .ok (.dup, 1) := by decide +kernel
theorem dX3_init_86 : decode cX3_init 86 = .ok (.invokespecial 53, 3) := by decide +kernel
theorem dX3_init_89 : decode cX3_init 89 = .ok (.aastore, 1) := by decide +kernel
theorem dX3_init_90 : decode cX3_init 90 = .ok (.iinc 1 1, 3) := by decide +kernel
theorem dX3_init_93 : decode cX3_init 93 = .ok (.goto (-22), 3) := by decide +kernel
theorem dX3_init_96 : decode cX3_init 96 = .ok (.iconst 0, 1) := by decide +kernel
theorem dX3_init_97 : decode cX3_init 97 = .ok (.istore_n 1, 1) := by decide +kernel
theorem dX3_init_98 : decode cX3_init 98 = .ok (.iload_n 1, 1) := by decide +kernel
theorem dX3_init_99 : decode cX3_init 99 = .ok (.bipush 30, 2) := by decide +kernel
theorem dX3_init_101 : decode cX3_init 101 = .ok (.if_icmp .ge 22, 3) := by decide +kernel
theorem dX3_init_104 : decode cX3_init 104 = .ok (.aload_n 0, 1) := by decide +kernel
theorem dX3_init_105 : decode cX3_init 105 = .ok (.getfield 19, 3) := by decide +kernel
theorem dX3_init_108 : decode cX3_init 108 = .ok (.iload_n 1, 1) := by decide +kernel
theorem dX3_init_109 : decode cX3_init 109 = .ok (.new 17, 3) := by decide +kernel
theorem dX3_init_112 : decode cX3_init 112 = .ok (.dup, 1) := by decide +kernel
theorem dX3_init_113 : decode cX3_init 113 = .ok (.invokespecial 54, 3) := by decide +kernel
theorem dX3_init_116 : decode cX3_init 116 = .ok (.aastore, 1) := by decide +kernel
theorem dX3_init_117 : decode cX3_init 117 = .ok (.iinc 1 1, 3) := by decide +kernel
theorem dX3_init_120 : decode cX3_init 120 = .ok (.goto (-22), 3) := by decide +kernel
theorem dX3_init_123 : decode cX3_init 123 = .ok (.return_, 1) := by decide +kernel
theorem dX3_open_0 : decode cX3_open 0 = .ok (.aload_n 0, 1) := by decide +kernel
theorem dX3_open_1 : decode cX3_open 1 = .ok (.getfield 41, 3) := by decide +kernel
theorem dX3_open_4 : decode cX3_open 4 = .ok (.istore 7, 2) := by decide +kernel
theorem dX3_open_6 : decode cX3_open 6 = .ok (.aload_n 0, 1) := by decide +kernel
theorem dX3_open_7 : decode cX3_open 7 = .ok (.getfield 19, 3) := by decide +kernel
theorem dX3_open_10 : decode cX3_open 10 = .ok (.iload 7, 2) := by decide +kernel
theorem dX3_open_12 : decode cX3_open 12 = .ok (.aaload, 1) := by decide +kernel
theorem dX3_open_13 : decode cX3_open 13 = .ok (.astore 8, 2) := by decide +kernel
theorem dX3_open_15 : decode cX3_open 15 = .ok (.aload 8, 2) := by decide +kernel
theorem dX3_open_17 : decode cX3_open 17 = .ok (.iload_n 1, 1) := by decide +kernel
theorem dX3_open_18 : decode cX3_open 18 = .ok (.putfield 55, 3) := by decide +kernel
theorem dX3_open_21 : decode cX3_open 21 = .ok (.aload 8, 2) := by decide +kernel
theorem dX3_open_23 : decode cX3_open 23 = .ok (.iload_n 2, 1) := by decide +kernel
theorem dX3_open_24 : decode cX3_open 24 = .ok (.putfield 58, 3) := by decide +kernel
theorem dX3_open_27 : decode cX3_open 27 = .ok (.aload 8, 2) := by decide +kernel
theorem dX3_open_29 : decode cX3_open 29 = .ok (.iload_n 3, 1) := by decide +kernel
theorem dX3_open_30 : decode cX3_open 30 = .ok (.putfield 61, 3) := by decide +kernel
theorem dX3_open_33 : decode cX3_open 33 = .ok (.aload 8, 2) := by decide +kernel
theorem dX3_open_35 : decode cX3_open 35 = .ok (.iload 4, 2) := by decide +kernel
theorem dX3_open_37 : decode cX3_open 37 = .ok (.putfield 64, 3) := by decide +kernel
theorem dX3_open_40 : decode cX3_open 40 = .ok (.aload 8, 2) := by decide +kernel
theorem dX3_open_42 : decode cX3_open 42 = .ok (.iload 6, 2) := by decide +kernel
theorem dX3_open_44 : decode cX3_open 44 = .ok (.putfield 67, 3) := by decide +kernel
theorem dX3_open_47 : decode cX3_open 47 = .ok (.aload 8, 2) := by decide +kernel
theorem dX3_open_49 : decode cX3_open 49 = .ok (.aload_n 0, 1) := by decide +kernel
theorem dX3_open_50 : decode cX3_open 50 = .ok (.getfield 37, 3) := by decide +kernel
theorem dX3_open_53 : decode cX3_open 53 = .ok (.putfield 70, 3) := by decide +kernel
theorem dX3_open_56 : decode cX3_open 56 = .ok (.aload 8, 2) := by decide +kernel
theorem dX3_open_58 : decode cX3_open 58 = .ok (.aload_n 0, 1) := by decide +kernel
theorem dX3_open_59 : decode cX3_open 59 = .ok (.getfield 37, 3) := by decide +kernel
theorem dX3_open_62 : decode cX3_open 62 = .ok (.iload 5, 2) := by decide +kernel
theorem dX3_open_64 : decode cX3_open 64 = .ok (.iadd, 1) := by decide +kernel
theorem dX3_open_65 : decode cX3_open 65 = .ok (.putfield 73, 3) := by decide +kernel
theorem dX3_open_68 : decode cX3_open 68 = .ok (.aload_n 0, 1) := by decide +kernel
theorem dX3_open_69 : decode cX3_open 69 = .ok (.dup, 1) := by decide +kernel
theorem dX3_open_70 : decode cX3_open 70 = .ok (.getfield 41, 3) := by decide +kernel
theorem dX3_open_73 : decode cX3_open 73 = .ok (.iconst 1, 1) := by decide +kernel
theorem dX3_open_74 : decode cX3_open 74 = .ok (.iadd, 1) := by decide +kernel
theorem dX3_open_75 : decode cX3_open 75 = .ok (.putfield 41, 3) := by decide +kernel
theorem dX3_open_78 : decode cX3_open 78 = .ok (.aload_n 0, 1) := by decide +kernel
theorem dX3_open_79 : decode cX3_open 79 = .ok (.dup, 1) := by decide +kernel
theorem dX3_open_80 : decode cX3_open 80 = .ok (.getfield 44, 3) := by decide +kernel
theorem dX3_open_83 : decode cX3_open 83 = .ok (.iconst 1, 1) := by decide +kernel
theorem dX3_open_84 : decode cX3_open 84 = .ok (.iadd, 1) := by decide +kernel
theorem dX3_open_85 : decode cX3_open 85 = .ok (.putfield 44, 3) := by decide +kernel
theorem dX3_open_88 : decode cX3_open 88 = .ok (.aload_n 0, 1) := by decide +kernel
theorem dX3_open_89 : decode cX3_open 89 = .ok (.iload 7, 2) := by decide +kernel
theorem dX3_open_91 : decode cX3_open 91 = .ok (.invokevirtual 76, 3) := by decide +kernel
theorem dX3_open_94 : decode cX3_open 94 = .ok (.iload 7, 2) := by decide +kernel
theorem dX3_open_96 : decode cX3_open 96 = .ok (.ireturn, 1) := by decide +kernel
theorem dX3_send_0 : decode cX3_send 0 = .ok (.aload_n 0, 1) := by decide +kernel
theorem dX3_send_1 : decode cX3_send 1 = .ok (.getfield 19, 3) := by decide +kernel
theorem dX3_send_4 : decode cX3_send 4 = .ok (.iload_n 2, 1) := by decide +kernel
theorem dX3_send_5 : decode cX3_send 5 = .ok (.aaload, 1) := by decide +kernel
theorem dX3_send_6 : decode cX3_send 6 = .ok (.astore 4, 2) := by decide +kernel
theorem dX3_send_8 : decode cX3_send 8 = .ok (.iload_n 1, 1) := by decide +kernel
theorem dX3_send_9 : decode cX3_send 9 = .ok (.iconst 1, 1) := by decide +kernel
theorem dX3_send_10 : decode cX3_send 10 = .ok (.if_icmp .eq 14, 3) := by decide +kernel
theorem dX3_send_13 : decode cX3_send 13 = .ok (.iload_n 1, 1) := by decide +kernel
theorem dX3_send_14 : decode cX3_send 14 = .ok (.bipush 6, 2) := by decide +kernel
theorem dX3_send_16 : decode cX3_send 16 = .ok (.if_icmp .eq 8, 3) := by decide +kernel
theorem dX3_send_19 : decode cX3_send 19 = .ok (.iload_n 1, 1) := by decide +kernel
theorem dX3_send_20 : decode cX3_send 20 = .ok (.iconst 5, 1) := by decide +kernel
theorem dX3_send_21 : decode cX3_send 21 = .ok (.if_icmp .ne 7, 3) := by decide +kernel
theorem dX3_send_24 : decode cX3_send 24 = .ok (.iconst 1, 1) := by decide +kernel
theorem dX3_send_25 : decode cX3_send 25 = .ok (.goto 4, 3) := by decide +kernel
theorem dX3_send_28 : decode cX3_send 28 = .ok (.iconst 0, 1) := by decide +kernel
theorem dX3_send_29 : decode cX3_send 29 = .ok (.istore 5, 2) := by decide +kernel
theorem dX3_send_31 : decode cX3_send 31 = .ok (.aload 4, 2) := by decide +kernel
theorem dX3_send_33 : decode cX3_send 33 = .ok (.dup, 1) := by decide +kernel
theorem dX3_send_34 : decode cX3_send 34 = .ok (.getfield 80, 3) := by decide +kernel
theorem dX3_send_37 : decode cX3_send 37 = .ok (.iconst 1, 1) := by decide +kernel
theorem dX3_send_38 : decode cX3_send 38 = .ok (.iadd, 1) := by decide +kernel
theorem dX3_send_39 : decode cX3_send 39 = .ok (.putfield 80, 3) := by decide +kernel
theorem dX3_send_42 : decode cX3_send 42 = .ok (.aload_n 0, 1) := by decide +kernel
theorem dX3_send_43 : decode cX3_send 43 = .ok (.getfield 26, 3) := by decide +kernel
theorem dX3_send_46 : decode cX3_send 46 = .ok (.iload_n 1, 1) := by decide +kernel
theorem dX3_send_47 : decode cX3_send 47 = .ok (.iload 5, 2) := by decide +kernel
theorem dX3_send_49 : decode cX3_send 49 = .ok (.ifCond .eq 11, 3) := by decide +kernel
theorem dX3_send_52 : decode cX3_send 52 = .ok (.aload 4, 2) := by decide +kernel
theorem dX3_send_54 : decode cX3_send 54 = .ok (.getfield 55, 3) := by decide +kernel
theorem dX3_send_57 : decode cX3_send 57 = .ok (.goto 8, 3) := by decide +kernel
theorem dX3_send_60 : decode cX3_send 60 = .ok (.aload 4, 2) := by decide +kernel
theorem dX3_send_62 : decode cX3_send 62 = .ok (.getfield 58, 3) := by decide +kernel
theorem dX3_send_65 : decode cX3_send 65 = .ok (.iload 5, 2) := by decide +kernel
theorem dX3_send_67 : decode cX3_send 67 = .ok (.ifCond .eq 11, 3) := by decide +kernel
theorem dX3_send_70 : decode cX3_send 70 = .ok (.aload 4, 2) := by decide +kernel
theorem dX3_send_72 : decode cX3_send 72 = .ok (.getfield 58, 3) := by decide +kernel
theorem dX3_send_75 : decode cX3_send 75 = .ok (.goto 8, 3) := by decide +kernel
theorem dX3_send_78 : decode cX3_send 78 = .ok (.aload 4, 2) := by decide +kernel
theorem dX3_send_80 : decode cX3_send 80 = .ok (.getfield 55, 3) := by decide +kernel
theorem dX3_send_83 : decode cX3_send 83 = .ok (.aload_n 0, 1) := by decide +kernel
theorem dX3_send_84 : decode cX3_send 84 = .ok (.getfield 37, 3) := by decide +kernel
theorem dX3_send_87 : decode cX3_send 87 = .ok (.iload_n 2, 1) := by decide +kernel
theorem dX3_send_88 : decode cX3_send 88 = .ok (.iload_n 3, 1) := by decide +kernel
theorem dX3_send_89 : decode cX3_send 89 = .ok (.invokevirtual 83, 3) := by decide +kernel
theorem dX3_send_92 : decode cX3_send 92 = .ok (.ireturn, 1) := by decide +kernel
theorem dX3_ask_0 : decode cX3_ask 0 = .ok (.aload_n 0, 1) := by decide +kernel
theorem dX3_ask_1 : decode cX3_ask 1 = .ok (.getfield 19, 3) := by decide +kernel
theorem dX3_ask_4 : decode cX3_ask 4 = .ok (.iload_n 1, 1) := by decide +kernel
theorem dX3_ask_5 : decode cX3_ask 5 = .ok (.aaload, 1) := by decide +kernel
theorem dX3_ask_6 : decode cX3_ask 6 = .ok (.aload_n 0, 1) := by decide +kernel
theorem dX3_ask_7 : decode cX3_ask 7 = .ok (.getfield 37, 3) := by decide +kernel
theorem dX3_ask_10 : decode cX3_ask 10 = .ok (.putfield 87, 3) := by decide +kernel
theorem dX3_ask_13 : decode cX3_ask 13 = .ok (.aload_n 0, 1) := by decide +kernel
theorem dX3_ask_14 : decode cX3_ask 14 = .ok (.iconst 1, 1) := by decide +kernel
theorem dX3_ask_15 : decode cX3_ask 15 = .ok (.iload_n 1, 1) := by decide +kernel
theorem dX3_ask_16 : decode cX3_ask 16 = .ok (.iconst 0, 1) := by decide +kernel
theorem dX3_ask_17 : decode cX3_ask 17 = .ok (.invokevirtual 90, 3) := by decide +kernel
theorem dX3_ask_20 : decode cX3_ask 20 = .ok (.pop, 1) := by decide +kernel
theorem dX3_ask_21 : decode cX3_ask 21 = .ok (.return_, 1) := by decide +kernel
theorem dX3_end_0 : decode cX3_end 0 = .ok (.aload_n 0, 1) := by decide +kernel
theorem dX3_end_1 : decode cX3_end 1 = .ok (.getfield 19, 3) := by decide +kernel
theorem dX3_end_4 : decode cX3_end 4 = .ok (.iload_n 1, 1) := by decide +kernel
theorem dX3_end_5 : decode cX3_end 5 = .ok (.aaload, 1) := by decide +kernel
theorem dX3_end_6 : decode cX3_end 6 = .ok (.getfield 94, 3) := by decide +kernel
theorem dX3_end_9 : decode cX3_end 9 = .ok (.ifCond .ne 36, 3) := by decide +kernel
theorem dX3_end_12 : decode cX3_end 12 = .ok (.aload_n 0, 1) := by decide +kernel
theorem dX3_end_13 : decode cX3_end 13 = .ok (.getfield 19, 3) := by decide +kernel
theorem dX3_end_16 : decode cX3_end 16 = .ok (.iload_n 1, 1) := by decide +kernel
theorem dX3_end_17 : decode cX3_end 17 = .ok (.aaload, 1) := by decide +kernel
theorem dX3_end_18 : decode cX3_end 18 = .ok (.iload_n 2, 1) := by decide +kernel
theorem dX3_end_19 : decode cX3_end 19 = .ok (.putfield 94, 3) := by decide +kernel
theorem dX3_end_22 : decode cX3_end 22 = .ok (.aload_n 0, 1) := by decide +kernel
theorem dX3_end_23 : decode cX3_end 23 = .ok (.getfield 19, 3) := by decide +kernel
theorem dX3_end_26 : decode cX3_end 26 = .ok (.iload_n 1, 1) := by decide +kernel
theorem dX3_end_27 : decode cX3_end 27 = .ok (.aaload, 1) := by decide +kernel
theorem dX3_end_28 : decode cX3_end 28 = .ok (.aload_n 0, 1) := by decide +kernel
theorem dX3_end_29 : decode cX3_end 29 = .ok (.getfield 37, 3) := by decide +kernel
theorem dX3_end_32 : decode cX3_end 32 = .ok (.putfield 97, 3) := by decide +kernel
theorem dX3_end_35 : decode cX3_end 35 = .ok (.aload_n 0, 1) := by decide +kernel
theorem dX3_end_36 : decode cX3_end 36 = .ok (.dup, 1) := by decide +kernel
theorem dX3_end_37 : decode cX3_end 37 = .ok (.getfield 44, 3) := by decide +kernel
theorem dX3_end_40 : decode cX3_end 40 = .ok (.iconst 1, 1) := by decide +kernel
theorem dX3_end_41 : decode cX3_end 41 = .ok (.isub, 1) := by decide +kernel
theorem dX3_end_42 : decode cX3_end 42 = .ok (.putfield 44, 3) := by decide +kernel
theorem dX3_end_45 : decode cX3_end 45 = .ok (.return_, 1) := by decide +kernel
theorem dX3_giveUp_0 : decode cX3_giveUp 0 = .ok (.aload_n 0, 1) := by decide +kernel
theorem dX3_giveUp_1 : decode cX3_giveUp 1 = .ok (.iload_n 1, 1) := by decide +kernel
theorem dX3_giveUp_2 : decode cX3_giveUp 2 = .ok (.iload_n 2, 1) := by decide +kernel
theorem dX3_giveUp_3 : decode cX3_giveUp 3 = .ok (.invokevirtual 100, 3) := by decide +kernel
theorem dX3_giveUp_6 : decode cX3_giveUp 6 = .ok (.aload_n 0, 1) := by decide +kernel
theorem dX3_giveUp_7 : decode cX3_giveUp 7 = .ok (.bipush 6, 2) := by decide +kernel
theorem dX3_giveUp_9 : decode cX3_giveUp 9 = .ok (.iload_n 1, 1) := by decide +kernel
theorem dX3_giveUp_10 : decode cX3_giveUp 10 = .ok (.iload_n 2, 1) := by decide +kernel
theorem dX3_giveUp_11 : decode cX3_giveUp 11 = .ok (.invokevirtual 90, 3) := by decide +kernel
theorem dX3_giveUp_14 : decode cX3_giveUp 14 = .ok (.pop, 1) := by decide +kernel
theorem dX3_giveUp_15 : decode cX3_giveUp 15 = .ok (.return_, 1) := by decide +kernel
theorem dX3_pass_0 : decode cX3_pass 0 = .ok (.aload_n 0, 1) := by decide +kernel
theorem dX3_pass_1 : decode cX3_pass 1 = .ok (.invokevirtual 104, 3) := by decide +kernel
theorem dX3_pass_4 : decode cX3_pass 4 = .ok (.aload_n 0, 1) := by decide +kernel
theorem dX3_pass_5 : decode cX3_pass 5 = .ok (.dup, 1) := by decide +kernel
theorem dX3_pass_6 : decode cX3_pass 6 = .ok (.getfield 37, 3) := by decide +kernel
theorem dX3_pass_9 : decode cX3_pass 9 = .ok (.iconst 1, 1) := by decide +kernel
theorem dX3_pass_10 : decode cX3_pass 10 = .ok (.iadd, 1) := by decide +kernel
theorem dX3_pass_11 : decode cX3_pass 11 = .ok (.putfield 37, 3) := by decide +kernel
theorem dX3_pass_14 : decode cX3_pass 14 = .ok (.aload_n 0, 1) := by decide +kernel
theorem dX3_pass_15 : decode cX3_pass 15 = .ok (.invokevirtual 107, 3) := by decide +kernel
theorem dX3_pass_18 : decode cX3_pass 18 = .ok (.istore_n 1, 1) := by decide +kernel
theorem dX3_pass_19 : decode cX3_pass 19 = .ok (.iconst 0, 1) := by decide +kernel
theorem dX3_pass_20 : decode cX3_pass 20 = .ok (.istore_n 2, 1) := by decide +kernel
theorem dX3_pass_21 : decode cX3_pass 21 = .ok (.iload_n 2, 1) := by decide +kernel
theorem dX3_pass_22 : decode cX3_pass 22 = .ok (.bipush 6, 2) := by decide +kernel
theorem dX3_pass_24 : decode cX3_pass 24 = .ok (.if_icmp .ge 14, 3) := by decide +kernel
theorem dX3_pass_27 : decode cX3_pass 27 = .ok (.aload_n 0, 1) := by decide +kernel
theorem dX3_pass_28 : decode cX3_pass 28 = .ok (.iload_n 2, 1) := by decide +kernel
theorem dX3_pass_29 : decode cX3_pass 29 = .ok (.invokevirtual 111, 3) := by decide +kernel
theorem dX3_pass_32 : decode cX3_pass 32 = .ok (.iinc 2 1, 3) := by decide +kernel
theorem dX3_pass_35 : decode cX3_pass 35 = .ok (.goto (-14), 3) := by decide +kernel
theorem dX3_pass_38 : decode cX3_pass 38 = .ok (.iconst 0, 1) := by decide +kernel
theorem dX3_pass_39 : decode cX3_pass 39 = .ok (.istore_n 2, 1) := by decide +kernel
theorem dX3_pass_40 : decode cX3_pass 40 = .ok (.iload_n 2, 1) := by decide +kernel
theorem dX3_pass_41 : decode cX3_pass 41 = .ok (.bipush 6, 2) := by decide +kernel
theorem dX3_pass_43 : decode cX3_pass 43 = .ok (.if_icmp .ge 14, 3) := by decide +kernel
theorem dX3_pass_46 : decode cX3_pass 46 = .ok (.aload_n 0, 1) := by decide +kernel
theorem dX3_pass_47 : decode cX3_pass 47 = .ok (.iload_n 2, 1) := by decide +kernel
theorem dX3_pass_48 : decode cX3_pass 48 = .ok (.invokevirtual 114, 3) := by decide +kernel
theorem dX3_pass_51 : decode cX3_pass 51 = .ok (.iinc 2 1, 3) := by decide +kernel
theorem dX3_pass_54 : decode cX3_pass 54 = .ok (.goto (-14), 3) := by decide +kernel
theorem dX3_pass_57 : decode cX3_pass 57 = .ok (.aload_n 0, 1) := by decide +kernel
theorem dX3_pass_58 : decode cX3_pass 58 = .ok (.invokevirtual 117, 3) := by decide +kernel
theorem dX3_pass_61 : decode cX3_pass 61 = .ok (.iload_n 1, 1) := by decide +kernel
theorem dX3_pass_62 : decode cX3_pass 62 = .ok (.ireturn, 1) := by decide +kernel
theorem dX3_shareOut_0 : decode cX3_shareOut 0 = .ok (.iconst 0, 1) := by decide +kernel
theorem dX3_shareOut_1 : decode cX3_shareOut 1 = .ok (.istore_n 1, 1) := by decide +kernel
theorem dX3_shareOut_2 : decode cX3_shareOut 2 = .ok (.iload_n 1, 1) := by decide +kernel
theorem dX3_shareOut_3 : decode cX3_shareOut 3 = .ok (.aload_n 0, 1) := by decide +kernel
theorem dX3_shareOut_4 : decode cX3_shareOut 4 = .ok (.getfield 41, 3) := by decide +kernel
theorem dX3_shareOut_7 : decode cX3_shareOut 7 = .ok (.if_icmp .ge 51, 3) := by decide +kernel
theorem dX3_shareOut_10 : decode cX3_shareOut 10 = .ok (.aload_n 0, 1) := by decide +kernel
theorem dX3_shareOut_11 : decode cX3_shareOut 11 = .ok (.getfield 44, 3) := by decide +kernel
theorem dX3_shareOut_14 : decode cX3_shareOut 14 = .ok (.ifCond .le 44, 3) := by decide +kernel
theorem dX3_shareOut_17 : decode cX3_shareOut 17 = .ok (.aload_n 0, 1) := by decide +kernel
theorem dX3_shareOut_18 : decode cX3_shareOut 18 = .ok (.getfield 19, 3) := by decide +kernel
theorem dX3_shareOut_21 : decode cX3_shareOut 21 = .ok (.iload_n 1, 1) := by decide +kernel
theorem dX3_shareOut_22 : decode cX3_shareOut 22 = .ok (.aaload, 1) := by decide +kernel
theorem dX3_shareOut_23 : decode cX3_shareOut 23 = .ok (.getfield 94, 3) := by decide +kernel
theorem dX3_shareOut_26 : decode cX3_shareOut 26 = .ok (.ifCond .ne 26, 3) := by decide +kernel
theorem dX3_shareOut_29 : decode cX3_shareOut 29 = .ok (.aload_n 0, 1) := by decide +kernel
theorem dX3_shareOut_30 : decode cX3_shareOut 30 = .ok (.getfield 19, 3) := by decide +kernel
theorem dX3_shareOut_33 : decode cX3_shareOut 33 = .ok (.iload_n 1, 1) := by decide +kernel
theorem dX3_shareOut_34 : decode cX3_shareOut 34 = .ok (.aaload, 1) := by decide +kernel
theorem dX3_shareOut_35 : decode cX3_shareOut 35 = .ok (.getfield 120, 3) := by decide +kernel
theorem dX3_shareOut_38 : decode cX3_shareOut 38 = .ok (.aload_n 0, 1) := by decide +kernel
theorem dX3_shareOut_39 : decode cX3_shareOut 39 = .ok (.getfield 19, 3) := by decide +kernel
theorem dX3_shareOut_42 : decode cX3_shareOut 42 = .ok (.iload_n 1, 1) := by decide +kernel
theorem dX3_shareOut_43 : decode cX3_shareOut 43 = .ok (.aaload, 1) := by decide +kernel
theorem dX3_shareOut_44 : decode cX3_shareOut 44 = .ok (.invokevirtual 124, 3) := by decide +kernel
theorem dX3_shareOut_47 : decode cX3_shareOut 47 = .ok (.dup2, 1) := by decide +kernel
theorem dX3_shareOut_48 : decode cX3_shareOut 48 = .ok (.iaload, 1) := by decide +kernel
theorem dX3_shareOut_49 : decode cX3_shareOut 49 = .ok (.iconst 1, 1) := by decide +kernel
theorem dX3_shareOut_50 : decode cX3_shareOut 50 = .ok (.iadd, 1) := by decide +kernel
theorem dX3_shareOut_51 : decode cX3_shareOut 51 = .ok (.iastore, 1) := by decide +kernel
theorem dX3_shareOut_52 : decode cX3_shareOut 52 = .ok (.iinc 1 1, 3) := by decide +kernel
theorem dX3_shareOut_55 : decode cX3_shareOut 55 = .ok (.goto (-53), 3) := by decide +kernel
theorem dX3_shareOut_58 : decode cX3_shareOut 58 = .ok (.return_, 1) := by decide +kernel
theorem dX3_deliver_0 : decode cX3_deliver 0 = .ok (.iconst 0, 1) := by decide +kernel
theorem dX3_deliver_1 : decode cX3_deliver 1 = .ok (.istore_n 1, 1) := by decide +kernel
theorem dX3_deliver_2 : decode cX3_deliver 2 = .ok (.aload_n 0, 1) := by decide +kernel
theorem dX3_deliver_3 : decode cX3_deliver 3 = .ok (.getfield 26, 3) := by decide +kernel
theorem dX3_deliver_6 : decode cX3_deliver 6 = .ok (.getfield 127, 3) := by decide +kernel
theorem dX3_deliver_9 : decode cX3_deliver 9 = .ok (.istore_n 2, 1) := by decide +kernel
theorem dX3_deliver_10 : decode cX3_deliver 10 = .ok (.aload_n 0, 1) := by decide +kernel
theorem dX3_deliver_11 : decode cX3_deliver 11 = .ok (.getfield 26, 3) := by decide +kernel
theorem dX3_deliver_14 : decode cX3_deliver 14 = .ok (.getfield 130, 3) := by decide +kernel
theorem dX3_deliver_17 : decode cX3_deliver 17 = .ok (.istore_n 3, 1) := by decide +kernel
theorem dX3_deliver_18 : decode cX3_deliver 18 = .ok (.iload_n 3, 1) := by decide +kernel
theorem dX3_deliver_19 : decode cX3_deliver 19 = .ok (.iload_n 2, 1) := by decide +kernel
theorem dX3_deliver_20 : decode cX3_deliver 20 = .ok (.if_icmp .ge 124, 3) := by decide +kernel
theorem dX3_deliver_23 : decode cX3_deliver 23 = .ok (.aload_n 0, 1) := by decide +kernel
theorem dX3_deliver_24 : decode cX3_deliver 24 = .ok (.getfield 26, 3) := by decide +kernel
theorem dX3_deliver_27 : decode cX3_deliver 27 = .ok (.getfield 133, 3) := by decide +kernel
theorem dX3_deliver_30 : decode cX3_deliver 30 = .ok (.iload_n 3, 1) := by decide +kernel
theorem dX3_deliver_31 : decode cX3_deliver 31 = .ok (.iaload, 1) := by decide +kernel
theorem dX3_deliver_32 : decode cX3_deliver 32 = .ok (.istore 4, 2) := by decide +kernel
theorem dX3_deliver_34 : decode cX3_deliver 34 = .ok (.iload 4, 2) := by decide +kernel
theorem dX3_deliver_36 : decode cX3_deliver 36 = .ok (.aload_n 0, 1) := by decide +kernel
theorem dX3_deliver_37 : decode cX3_deliver 37 = .ok (.getfield 41, 3) := by decide +kernel
theorem dX3_deliver_40 : decode cX3_deliver 40 = .ok (.invokestatic 136, 3) := by decide +kernel
theorem dX3_deliver_43 : decode cX3_deliver 43 = .ok (.ifCond .eq 19, 3) := by decide +kernel
theorem dX3_deliver_46 : decode cX3_deliver 46 = .ok (.aload_n 0, 1) := by decide +kernel
theorem dX3_deliver_47 : decode cX3_deliver 47 = .ok (.getfield 19, 3) := by decide +kernel
theorem dX3_deliver_50 : decode cX3_deliver 50 = .ok (.iload 4, 2) := by decide +kernel
theorem dX3_deliver_52 : decode cX3_deliver 52 = .ok (.aaload, 1) := by decide +kernel
theorem dX3_deliver_53 : decode cX3_deliver 53 = .ok (.dup, 1) := by decide +kernel
theorem dX3_deliver_54 : decode cX3_deliver 54 = .ok (.getfield 80, 3) := by decide +kernel
theorem dX3_deliver_57 : decode cX3_deliver 57 = .ok (.iconst 1, 1) := by decide +kernel
theorem dX3_deliver_58 : decode cX3_deliver 58 = .ok (.isub, 1) := by decide +kernel
theorem dX3_deliver_59 : decode cX3_deliver 59 = .ok (.putfield 80, 3) := by decide +kernel
theorem dX3_deliver_62 : decode cX3_deliver 62 = .ok (.aload_n 0, 1) := by decide +kernel
theorem dX3_deliver_63 : decode cX3_deliver 63 = .ok (.getfield 33, 3) := by decide +kernel
theorem dX3_deliver_66 : decode cX3_deliver 66 = .ok (.aload_n 0, 1) := by decide +kernel
theorem dX3_deliver_67 : decode cX3_deliver 67 = .ok (.getfield 26, 3) := by decide +kernel
theorem dX3_deliver_70 : decode cX3_deliver 70 = .ok (.getfield 140, 3) := by decide +kernel
theorem dX3_deliver_73 : decode cX3_deliver 73 = .ok (.iload_n 3, 1) := by decide +kernel
theorem dX3_deliver_74 : decode cX3_deliver 74 = .ok (.iaload, 1) := by decide +kernel
theorem dX3_deliver_75 : decode cX3_deliver 75 = .ok (.aload_n 0, 1) := by decide +kernel
theorem dX3_deliver_76 : decode cX3_deliver 76 = .ok (.getfield 26, 3) := by decide +kernel
theorem dX3_deliver_79 : decode cX3_deliver 79 = .ok (.getfield 142, 3) := by decide +kernel
theorem dX3_deliver_82 : decode cX3_deliver 82 = .ok (.iload_n 3, 1) := by decide +kernel
theorem dX3_deliver_83 : decode cX3_deliver 83 = .ok (.iaload, 1) := by decide +kernel
theorem dX3_deliver_84 : decode cX3_deliver 84 = .ok (.aload_n 0, 1) := by decide +kernel
theorem dX3_deliver_85 : decode cX3_deliver 85 = .ok (.getfield 37, 3) := by decide +kernel
theorem dX3_deliver_88 : decode cX3_deliver 88 = .ok (.invokevirtual 144, 3) := by decide +kernel
theorem dX3_deliver_91 : decode cX3_deliver 91 = .ok (.ifCond .eq 29, 3) := by decide +kernel
theorem dX3_deliver_94 : decode cX3_deliver 94 = .ok (.aload_n 0, 1) := by decide +kernel
theorem dX3_deliver_95 : decode cX3_deliver 95 = .ok (.getfield 26, 3) := by decide +kernel
theorem dX3_deliver_98 : decode cX3_deliver 98 = .ok (.getfield 148, 3) := by decide +kernel
theorem dX3_deliver_101 : decode cX3_deliver 101 = .ok (.iload_n 3, 1) := by decide +kernel
theorem dX3_deliver_102 : decode cX3_deliver 102 = .ok (.iconst 2, 1) := by decide +kernel
theorem dX3_deliver_103 : decode cX3_deliver 103 = .ok (.iastore, 1) := by decide +kernel
theorem dX3_deliver_104 : decode cX3_deliver 104 = .ok (.aload_n 0, 1) := by decide +kernel
theorem dX3_deliver_105 : decode cX3_deliver 105 = .ok (.getfield 26, 3) := by decide +kernel
theorem dX3_deliver_108 : decode cX3_deliver 108 = .ok (.dup, 1) := by decide +kernel
theorem dX3_deliver_109 : decode cX3_deliver 109 = .ok (.getfield 150, 3) := by decide +kernel
theorem dX3_deliver_112 : decode cX3_deliver 112 = .ok (.iconst 1, 1) := by decide +kernel
theorem dX3_deliver_113 : decode cX3_deliver 113 = .ok (.iadd, 1) := by decide +kernel
theorem dX3_deliver_114 : decode cX3_deliver 114 = .ok (.putfield 150, 3) := by decide +kernel
theorem dX3_deliver_117 : decode cX3_deliver 117 = .ok (.goto 21, 3) := by decide +kernel
theorem dX3_deliver_120 : decode cX3_deliver 120 = .ok (.aload_n 0, 1) := by decide +kernel
theorem dX3_deliver_121 : decode cX3_deliver 121 = .ok (.getfield 26, 3) := by decide +kernel
theorem dX3_deliver_124 : decode cX3_deliver 124 = .ok (.getfield 148, 3) := by decide +kernel
theorem dX3_deliver_127 : decode cX3_deliver 127 = .ok (.iload_n 3, 1) := by decide +kernel
theorem dX3_deliver_128 : decode cX3_deliver 128 = .ok (.iconst 1, 1) := by decide +kernel
theorem dX3_deliver_129 : decode cX3_deliver 129 = .ok (.iastore, 1) := by decide +kernel
theorem dX3_deliver_130 : decode cX3_deliver 130 = .ok (.iinc 1 1, 3) := by decide +kernel
theorem dX3_deliver_133 : decode cX3_deliver 133 = .ok (.aload_n 0, 1) := by decide +kernel
theorem dX3_deliver_134 : decode cX3_deliver 134 = .ok (.iload_n 3, 1) := by decide +kernel
theorem dX3_deliver_135 : decode cX3_deliver 135 = .ok (.invokevirtual 153, 3) := by decide +kernel
theorem dX3_deliver_138 : decode cX3_deliver 138 = .ok (.iinc 3 1, 3) := by decide +kernel
theorem dX3_deliver_141 : decode cX3_deliver 141 = .ok (.goto (-123), 3) := by decide +kernel
theorem dX3_deliver_144 : decode cX3_deliver 144 = .ok (.aload_n 0, 1) := by decide +kernel
theorem dX3_deliver_145 : decode cX3_deliver 145 = .ok (.getfield 26, 3) := by decide +kernel
theorem dX3_deliver_148 : decode cX3_deliver 148 = .ok (.iload_n 2, 1) := by decide +kernel
theorem dX3_deliver_149 : decode cX3_deliver 149 = .ok (.putfield 130, 3) := by decide +kernel
theorem dX3_deliver_152 : decode cX3_deliver 152 = .ok (.iload_n 1, 1) := by decide +kernel
theorem dX3_deliver_153 : decode cX3_deliver 153 = .ok (.ireturn, 1) := by decide +kernel
theorem dX3_take_0 : decode cX3_take 0 = .ok (.aload_n 0, 1) := by decide +kernel
theorem dX3_take_1 : decode cX3_take 1 = .ok (.getfield 26, 3) := by decide +kernel
theorem dX3_take_4 : decode cX3_take 4 = .ok (.getfield 133, 3) := by decide +kernel
theorem dX3_take_7 : decode cX3_take 7 = .ok (.iload_n 1, 1) := by decide +kernel
theorem dX3_take_8 : decode cX3_take 8 = .ok (.iaload, 1) := by decide +kernel
theorem dX3_take_9 : decode cX3_take 9 = .ok (.istore_n 2, 1) := by decide +kernel
theorem dX3_take_10 : decode cX3_take 10 = .ok (.iload_n 2, 1) := by decide +kernel
theorem dX3_take_11 : decode cX3_take 11 = .ok (.aload_n 0, 1) := by decide +kernel
theorem dX3_take_12 : decode cX3_take 12 = .ok (.getfield 41, 3) := by decide +kernel
theorem dX3_take_15 : decode cX3_take 15 = .ok (.invokestatic 136, 3) := by decide +kernel
theorem dX3_take_18 : decode cX3_take 18 = .ok (.ifCond .ne 4, 3) := by decide +kernel
theorem dX3_take_21 : decode cX3_take 21 = .ok (.return_, 1) := by decide +kernel
theorem dX3_take_22 : decode cX3_take 22 = .ok (.aload_n 0, 1) := by decide +kernel
theorem dX3_take_23 : decode cX3_take 23 = .ok (.getfield 26, 3) := by decide +kernel
theorem dX3_take_26 : decode cX3_take 26 = .ok (.getfield 156, 3) := by decide +kernel
theorem dX3_take_29 : decode cX3_take 29 = .ok (.iload_n 1, 1) := by decide +kernel
theorem dX3_take_30 : decode cX3_take 30 = .ok (.iaload, 1) := by decide +kernel
theorem dX3_take_31 : decode cX3_take 31 = .ok (.tableswitch 123 1 6 #[37, 45, 54, 71, 89, 115], 37) := by decide +kernel
theorem dX3_take_68 : decode cX3_take 68 = .ok (.aload_n 0, 1) := by decide +kernel
theorem dX3_take_69 : decode cX3_take 69 = .ok (.iload_n 2, 1) := by decide +kernel
theorem dX3_take_70 : decode cX3_take 70 = .ok (.invokevirtual 159, 3) := by decide +kernel
theorem dX3_take_73 : decode cX3_take 73 = .ok (.goto 81, 3) := by decide +kernel
theorem dX3_take_76 : decode cX3_take 76 = .ok (.aload_n 0, 1) := by decide +kernel
theorem dX3_take_77 : decode cX3_take 77 = .ok (.iload_n 2, 1) := by decide +kernel
theorem dX3_take_78 : decode cX3_take 78 = .ok (.iconst 3, 1) := by decide +kernel
theorem dX3_take_79 : decode cX3_take 79 = .ok (.invokevirtual 100, 3) := by decide +kernel
theorem dX3_take_82 : decode cX3_take 82 = .ok (.goto 72, 3) := by decide +kernel
theorem dX3_take_85 : decode cX3_take 85 = .ok (.aload_n 0, 1) := by decide +kernel
theorem dX3_take_86 : decode cX3_take 86 = .ok (.iload_n 2, 1) := by decide +kernel
theorem dX3_take_87 : decode cX3_take 87 = .ok (.aload_n 0, 1) := by decide +kernel
theorem dX3_take_88 : decode cX3_take 88 = .ok (.getfield 26, 3) := by decide +kernel
theorem dX3_take_91 : decode cX3_take 91 = .ok (.getfield 162, 3) := by decide +kernel
theorem dX3_take_94 : decode cX3_take 94 = .ok (.iload_n 1, 1) := by decide +kernel
theorem dX3_take_95 : decode cX3_take 95 = .ok (.iaload, 1) := by decide +kernel
theorem dX3_take_96 : decode cX3_take 96 = .ok (.invokevirtual 100, 3) := by decide +kernel
theorem dX3_take_99 : decode cX3_take 99 = .ok (.goto 55, 3) := by decide +kernel
theorem dX3_take_102 : decode cX3_take 102 = .ok (.aload_n 0, 1) := by decide +kernel
theorem dX3_take_103 : decode cX3_take 103 = .ok (.getfield 19, 3) := by decide +kernel
theorem dX3_take_106 : decode cX3_take 106 = .ok (.iload_n 2, 1) := by decide +kernel
theorem dX3_take_107 : decode cX3_take 107 = .ok (.aaload, 1) := by decide +kernel
theorem dX3_take_108 : decode cX3_take 108 = .ok (.dup, 1) := by decide +kernel
theorem dX3_take_109 : decode cX3_take 109 = .ok (.getfield 165, 3) := by decide +kernel
theorem dX3_take_112 : decode cX3_take 112 = .ok (.iconst 1, 1) := by decide +kernel
theorem dX3_take_113 : decode cX3_take 113 = .ok (.iadd, 1) := by decide +kernel
theorem dX3_take_114 : decode cX3_take 114 = .ok (.putfield 165, 3) := by decide +kernel
theorem dX3_take_117 : decode cX3_take 117 = .ok (.goto 37, 3) := by decide +kernel
theorem dX3_take_120 : decode cX3_take 120 = .ok (.aload_n 0, 1) := by decide +kernel
theorem dX3_take_121 : decode cX3_take 121 = .ok (.getfield 19, 3) := by decide +kernel
theorem dX3_take_124 : decode cX3_take 124 = .ok (.iload_n 2, 1) := by decide +kernel
theorem dX3_take_125 : decode cX3_take 125 = .ok (.aaload, 1) := by decide +kernel
theorem dX3_take_126 : decode cX3_take 126 = .ok (.dup, 1) := by decide +kernel
theorem dX3_take_127 : decode cX3_take 127 = .ok (.getfield 168, 3) := by decide +kernel
theorem dX3_take_130 : decode cX3_take 130 = .ok (.aload_n 0, 1) := by decide +kernel
theorem dX3_take_131 : decode cX3_take 131 = .ok (.getfield 26, 3) := by decide +kernel
theorem dX3_take_134 : decode cX3_take 134 = .ok (.getfield 162, 3) := by decide +kernel
theorem dX3_take_137 : decode cX3_take 137 = .ok (.iload_n 1, 1) := by decide +kernel
theorem dX3_take_138 : decode cX3_take 138 = .ok (.iaload, 1) := by decide +kernel
theorem dX3_take_139 : decode cX3_take 139 = .ok (.iadd, 1) := by decide +kernel
theorem dX3_take_140 : decode cX3_take 140 = .ok (.putfield 168, 3) := by decide +kernel
theorem dX3_take_143 : decode cX3_take 143 = .ok (.goto 11, 3) := by decide +kernel
theorem dX3_take_146 : decode cX3_take 146 = .ok (.aload_n 0, 1) := by decide +kernel
theorem dX3_take_147 : decode cX3_take 147 = .ok (.iload_n 2, 1) := by decide +kernel
theorem dX3_take_148 : decode cX3_take 148 = .ok (.invokevirtual 171, 3) := by decide +kernel
theorem dX3_take_151 : decode cX3_take 151 = .ok (.goto 3, 3) := by decide +kernel
theorem dX3_take_154 : decode cX3_take 154 = .ok (.return_, 1) := by decide +kernel
theorem dX3_takeAsk_0 : decode cX3_takeAsk 0 = .ok (.aload_n 0, 1) := by decide +kernel
theorem dX3_takeAsk_1 : decode cX3_takeAsk 1 = .ok (.getfield 19, 3) := by decide +kernel
theorem dX3_takeAsk_4 : decode cX3_takeAsk 4 = .ok (.iload_n 1, 1) := by decide +kernel
theorem dX3_takeAsk_5 : decode cX3_takeAsk 5 = .ok (.aaload, 1) := by decide +kernel
theorem dX3_takeAsk_6 : decode cX3_takeAsk 6 = .ok (.astore_n 2, 1) := by decide +kernel
theorem dX3_takeAsk_7 : decode cX3_takeAsk 7 = .ok (.aload_n 0, 1) := by decide +kernel
theorem dX3_takeAsk_8 : decode cX3_takeAsk 8 = .ok (.getfield 11, 3) := by decide +kernel
theorem dX3_takeAsk_11 : decode cX3_takeAsk 11 = .ok (.aload_n 2, 1) := by decide +kernel
theorem dX3_takeAsk_12 : decode cX3_takeAsk 12 = .ok (.getfield 58, 3) := by decide +kernel
theorem dX3_takeAsk_15 : decode cX3_takeAsk 15 = .ok (.aaload, 1) := by decide +kernel
theorem dX3_takeAsk_16 : decode cX3_takeAsk 16 = .ok (.astore_n 3, 1) := by decide +kernel
theorem dX3_takeAsk_17 : decode cX3_takeAsk 17 = .ok (.aload_n 2, 1) := by decide +kernel
theorem dX3_takeAsk_18 : decode cX3_takeAsk 18 = .ok (.getfield 174, 3) := by decide +kernel
theorem dX3_takeAsk_21 : decode cX3_takeAsk 21 = .ok (.ifCond .eq 4, 3) := by decide +kernel
theorem dX3_takeAsk_24 : decode cX3_takeAsk 24 = .ok (.return_, 1) := by decide +kernel
theorem dX3_takeAsk_25 : decode cX3_takeAsk 25 = .ok (.aload_n 3, 1) := by decide +kernel
theorem dX3_takeAsk_26 : decode cX3_takeAsk 26 = .ok (.getfield 177, 3) := by decide +kernel
theorem dX3_takeAsk_29 : decode cX3_takeAsk 29 = .ok (.aload_n 3, 1) := by decide +kernel
theorem dX3_takeAsk_30 : decode cX3_takeAsk 30 = .ok (.getfield 180, 3) := by decide +kernel
theorem dX3_takeAsk_33 : decode cX3_takeAsk 33 = .ok (.iadd, 1) := by decide +kernel
theorem dX3_takeAsk_34 : decode cX3_takeAsk 34 = .ok (.aload_n 3, 1) := by decide +kernel
theorem dX3_takeAsk_35 : decode cX3_takeAsk 35 = .ok (.getfield 183, 3) := by decide +kernel
theorem dX3_takeAsk_38 : decode cX3_takeAsk 38 = .ok (.if_icmp .ge 7, 3) := by decide +kernel
theorem dX3_takeAsk_41 : decode cX3_takeAsk 41 = .ok (.iconst 1, 1) := by decide +kernel
theorem dX3_takeAsk_42 : decode cX3_takeAsk 42 = .ok (.goto 4, 3) := by decide +kernel
theorem dX3_takeAsk_45 : decode cX3_takeAsk 45 = .ok (.iconst 0, 1) := by decide +kernel
theorem dX3_takeAsk_46 : decode cX3_takeAsk 46 = .ok (.istore 4, 2) := by decide +kernel
theorem dX3_takeAsk_48 : decode cX3_takeAsk 48 = .ok (.aload_n 0, 1) := by decide +kernel
theorem dX3_takeAsk_49 : decode cX3_takeAsk 49 = .ok (.aload_n 2, 1) := by decide +kernel
theorem dX3_takeAsk_50 : decode cX3_takeAsk 50 = .ok (.invokevirtual 186, 3) := by decide +kernel
theorem dX3_takeAsk_53 : decode cX3_takeAsk 53 = .ok (.ifCond .eq 14, 3) := by decide +kernel
theorem dX3_takeAsk_56 : decode cX3_takeAsk 56 = .ok (.aload_n 0, 1) := by decide +kernel
theorem dX3_takeAsk_57 : decode cX3_takeAsk 57 = .ok (.iconst 2, 1) := by decide +kernel
theorem dX3_takeAsk_58 : decode cX3_takeAsk 58 = .ok (.iload_n 1, 1) := by decide +kernel
theorem dX3_takeAsk_59 : decode cX3_takeAsk 59 = .ok (.iconst 0, 1) := by decide +kernel
theorem dX3_takeAsk_60 : decode cX3_takeAsk 60 = .ok (.invokevirtual 90, 3) := by decide +kernel
theorem dX3_takeAsk_63 : decode cX3_takeAsk 63 = .ok (.pop, 1) := by decide +kernel
theorem dX3_takeAsk_64 : decode cX3_takeAsk 64 = .ok (.goto 100, 3) := by decide +kernel
theorem dX3_takeAsk_67 : decode cX3_takeAsk 67 = .ok (.aload_n 2, 1) := by decide +kernel
theorem dX3_takeAsk_68 : decode cX3_takeAsk 68 = .ok (.getfield 61, 3) := by decide +kernel
theorem dX3_takeAsk_71 : decode cX3_takeAsk 71 = .ok (.iconst 1, 1) := by decide +kernel
theorem dX3_takeAsk_72 : decode cX3_takeAsk 72 = .ok (.if_icmp .ne 22, 3) := by decide +kernel
theorem dX3_takeAsk_75 : decode cX3_takeAsk 75 = .ok (.aload_n 2, 1) := by decide +kernel
theorem dX3_takeAsk_76 : decode cX3_takeAsk 76 = .ok (.getfield 190, 3) := by decide +kernel
theorem dX3_takeAsk_79 : decode cX3_takeAsk 79 = .ok (.ifCond .le 15, 3) := by decide +kernel
theorem dX3_takeAsk_82 : decode cX3_takeAsk 82 = .ok (.aload_n 0, 1) := by decide +kernel
theorem dX3_takeAsk_83 : decode cX3_takeAsk 83 = .ok (.iconst 3, 1) := by decide +kernel
theorem dX3_takeAsk_84 : decode cX3_takeAsk 84 = .ok (.iload_n 1, 1) := by decide +kernel
theorem dX3_takeAsk_85 : decode cX3_takeAsk 85 = .ok (.bipush 8, 2) := by decide +kernel
theorem dX3_takeAsk_87 : decode cX3_takeAsk 87 = .ok (.invokevirtual 90, 3) := by decide +kernel
theorem dX3_takeAsk_90 : decode cX3_takeAsk 90 = .ok (.pop, 1) := by decide +kernel
theorem dX3_takeAsk_91 : decode cX3_takeAsk 91 = .ok (.goto 73, 3) := by decide +kernel
theorem dX3_takeAsk_94 : decode cX3_takeAsk 94 = .ok (.aload_n 0, 1) := by decide +kernel
theorem dX3_takeAsk_95 : decode cX3_takeAsk 95 = .ok (.getfield 37, 3) := by decide +kernel
theorem dX3_takeAsk_98 : decode cX3_takeAsk 98 = .ok (.aload_n 2, 1) := by decide +kernel
theorem dX3_takeAsk_99 : decode cX3_takeAsk 99 = .ok (.getfield 64, 3) := by decide +kernel
theorem dX3_takeAsk_102 : decode cX3_takeAsk 102 = .ok (.iadd, 1) := by decide +kernel
theorem dX3_takeAsk_103 : decode cX3_takeAsk 103 = .ok (.aload_n 2, 1) := by decide +kernel
theorem dX3_takeAsk_104 : decode cX3_takeAsk 104 = .ok (.getfield 73, 3) := by decide +kernel
theorem dX3_takeAsk_107 : decode cX3_takeAsk 107 = .ok (.if_icmp .le 15, 3) := by decide +kernel
theorem dX3_takeAsk_110 : decode cX3_takeAsk 110 = .ok (.aload_n 0, 1) := by decide +kernel
theorem dX3_takeAsk_111 : decode cX3_takeAsk 111 = .ok (.iconst 3, 1) := by decide +kernel
theorem dX3_takeAsk_112 : decode cX3_takeAsk 112 = .ok (.iload_n 1, 1) := by decide +kernel
theorem dX3_takeAsk_113 : decode cX3_takeAsk 113 = .ok (.bipush 6, 2) := by decide +kernel
theorem dX3_takeAsk_115 : decode cX3_takeAsk 115 = .ok (.invokevirtual 90, 3) := by decide +kernel
theorem dX3_takeAsk_118 : decode cX3_takeAsk 118 = .ok (.pop, 1) := by decide +kernel
theorem dX3_takeAsk_119 : decode cX3_takeAsk 119 = .ok (.goto 45, 3) := by decide +kernel
theorem dX3_takeAsk_122 : decode cX3_takeAsk 122 = .ok (.iload 4, 2) := by decide +kernel
theorem dX3_takeAsk_124 : decode cX3_takeAsk 124 = .ok (.ifCond .ne 25, 3) := by decide +kernel
theorem dX3_takeAsk_127 : decode cX3_takeAsk 127 = .ok (.aload_n 3, 1) := by decide +kernel
theorem dX3_takeAsk_128 : decode cX3_takeAsk 128 = .ok (.getfield 180, 3) := by decide +kernel
theorem dX3_takeAsk_131 : decode cX3_takeAsk 131 = .ok (.aload_n 3, 1) := by decide +kernel
theorem dX3_takeAsk_132 : decode cX3_takeAsk 132 = .ok (.getfield 193, 3) := by decide +kernel
theorem dX3_takeAsk_135 : decode cX3_takeAsk 135 = .ok (.if_icmp .lt 14, 3) := by decide +kernel
theorem dX3_takeAsk_138 : decode cX3_takeAsk 138 = .ok (.aload_n 0, 1) := by decide +kernel
theorem dX3_takeAsk_139 : decode cX3_takeAsk 139 = .ok (.iconst 3, 1) := by decide +kernel
theorem dX3_takeAsk_140 : decode cX3_takeAsk 140 = .ok (.iload_n 1, 1) := by decide +kernel
theorem dX3_takeAsk_141 : decode cX3_takeAsk 141 = .ok (.iconst 4, 1) := by decide +kernel
theorem dX3_takeAsk_142 : decode cX3_takeAsk 142 = .ok (.invokevirtual 90, 3) := by decide +kernel
theorem dX3_takeAsk_145 : decode cX3_takeAsk 145 = .ok (.pop, 1) := by decide +kernel
theorem dX3_takeAsk_146 : decode cX3_takeAsk 146 = .ok (.goto 18, 3) := by decide +kernel
theorem dX3_takeAsk_149 : decode cX3_takeAsk 149 = .ok (.aload_n 2, 1) := by decide +kernel
theorem dX3_takeAsk_150 : decode cX3_takeAsk 150 = .ok (.iconst 1, 1) := by decide +kernel
theorem dX3_takeAsk_151 : decode cX3_takeAsk 151 = .ok (.putfield 174, 3) := by decide +kernel
theorem dX3_takeAsk_154 : decode cX3_takeAsk 154 = .ok (.aload_n 3, 1) := by decide +kernel
theorem dX3_takeAsk_155 : decode cX3_takeAsk 155 = .ok (.dup, 1) := by decide +kernel
theorem dX3_takeAsk_156 : decode cX3_takeAsk 156 = .ok (.getfield 180, 3) := by decide +kernel
theorem dX3_takeAsk_159 : decode cX3_takeAsk 159 = .ok (.iconst 1, 1) := by decide +kernel
theorem dX3_takeAsk_160 : decode cX3_takeAsk 160 = .ok (.iadd, 1) := by decide +kernel
theorem dX3_takeAsk_161 : decode cX3_takeAsk 161 = .ok (.putfield 180, 3) := by decide +kernel
theorem dX3_takeAsk_164 : decode cX3_takeAsk 164 = .ok (.return_, 1) := by decide +kernel
theorem dX3_takeCancel_0 : decode cX3_takeCancel 0 = .ok (.aload_n 0, 1) := by decide +kernel
theorem dX3_takeCancel_1 : decode cX3_takeCancel 1 = .ok (.getfield 19, 3) := by decide +kernel
theorem dX3_takeCancel_4 : decode cX3_takeCancel 4 = .ok (.iload_n 1, 1) := by decide +kernel
theorem dX3_takeCancel_5 : decode cX3_takeCancel 5 = .ok (.aaload, 1) := by decide +kernel
theorem dX3_takeCancel_6 : decode cX3_takeCancel 6 = .ok (.getfield 174, 3) := by decide +kernel
theorem dX3_takeCancel_9 : decode cX3_takeCancel 9 = .ok (.iconst 1, 1) := by decide +kernel
theorem dX3_takeCancel_10 : decode cX3_takeCancel 10 = .ok (.if_icmp .ne 36, 3) := by decide +kernel
theorem dX3_takeCancel_13 : decode cX3_takeCancel 13 = .ok (.aload_n 0, 1) := by decide +kernel
theorem dX3_takeCancel_14 : decode cX3_takeCancel 14 = .ok (.getfield 19, 3) := by decide +kernel
theorem dX3_takeCancel_17 : decode cX3_takeCancel 17 = .ok (.iload_n 1, 1) := by decide +kernel
theorem dX3_takeCancel_18 : decode cX3_takeCancel 18 = .ok (.aaload, 1) := by decide +kernel
theorem dX3_takeCancel_19 : decode cX3_takeCancel 19 = .ok (.iconst 0, 1) := by decide +kernel
theorem dX3_takeCancel_20 : decode cX3_takeCancel 20 = .ok (.putfield 174, 3) := by decide +kernel
theorem dX3_takeCancel_23 : decode cX3_takeCancel 23 = .ok (.aload_n 0, 1) := by decide +kernel
theorem dX3_takeCancel_24 : decode cX3_takeCancel 24 = .ok (.getfield 11, 3) := by decide +kernel
theorem dX3_takeCancel_27 : decode cX3_takeCancel 27 = .ok (.aload_n 0, 1) := by decide +kernel
theorem dX3_takeCancel_28 : decode cX3_takeCancel 28 = .ok (.getfield 19, 3) := by decide +kernel
theorem dX3_takeCancel_31 : decode cX3_takeCancel 31 = .ok (.iload_n 1, 1) := by decide +kernel
theorem dX3_takeCancel_32 : decode cX3_takeCancel 32 = .ok (.aaload, 1) := by decide +kernel
theorem dX3_takeCancel_33 : decode cX3_takeCancel 33 = .ok (.getfield 58, 3) := by decide +kernel
theorem dX3_takeCancel_36 : decode cX3_takeCancel 36 = .ok (.aaload, 1) := by decide +kernel
theorem dX3_takeCancel_37 : decode cX3_takeCancel 37 = .ok (.dup, 1) := by decide +kernel
theorem dX3_takeCancel_38 : decode cX3_takeCancel 38 = .ok (.getfield 180, 3) := by decide +kernel
theorem dX3_takeCancel_41 : decode cX3_takeCancel 41 = .ok (.iconst 1, 1) := by decide +kernel
theorem dX3_takeCancel_42 : decode cX3_takeCancel 42 = .ok (.isub, 1) := by decide +kernel
theorem dX3_takeCancel_43 : decode cX3_takeCancel 43 = .ok (.putfield 180, 3) := by decide +kernel
theorem dX3_takeCancel_46 : decode cX3_takeCancel 46 = .ok (.return_, 1) := by decide +kernel
theorem dX3_finishWork_0 : decode cX3_finishWork 0 = .ok (.iconst 0, 1) := by decide +kernel
theorem dX3_finishWork_1 : decode cX3_finishWork 1 = .ok (.istore_n 2, 1) := by decide +kernel
theorem dX3_finishWork_2 : decode cX3_finishWork 2 = .ok (.iload_n 2, 1) := by decide +kernel
theorem dX3_finishWork_3 : decode cX3_finishWork 3 = .ok (.aload_n 0, 1) := by decide +kernel
theorem dX3_finishWork_4 : decode cX3_finishWork 4 = .ok (.getfield 41, 3) := by decide +kernel
theorem dX3_finishWork_7 : decode cX3_finishWork 7 = .ok (.if_icmp .ge 66, 3) := by decide +kernel
theorem dX3_finishWork_10 : decode cX3_finishWork 10 = .ok (.aload_n 0, 1) := by decide +kernel
theorem dX3_finishWork_11 : decode cX3_finishWork 11 = .ok (.getfield 11, 3) := by decide +kernel
theorem dX3_finishWork_14 : decode cX3_finishWork 14 = .ok (.iload_n 1, 1) := by decide +kernel
theorem dX3_finishWork_15 : decode cX3_finishWork 15 = .ok (.aaload, 1) := by decide +kernel
theorem dX3_finishWork_16 : decode cX3_finishWork 16 = .ok (.getfield 177, 3) := by decide +kernel
theorem dX3_finishWork_19 : decode cX3_finishWork 19 = .ok (.ifCond .le 54, 3) := by decide +kernel
theorem dX3_finishWork_22 : decode cX3_finishWork 22 = .ok (.aload_n 0, 1) := by decide +kernel
theorem dX3_finishWork_23 : decode cX3_finishWork 23 = .ok (.getfield 19, 3) := by decide +kernel
theorem dX3_finishWork_26 : decode cX3_finishWork 26 = .ok (.iload_n 2, 1) := by decide +kernel
theorem dX3_finishWork_27 : decode cX3_finishWork 27 = .ok (.aaload, 1) := by decide +kernel
theorem dX3_finishWork_28 : decode cX3_finishWork 28 = .ok (.astore_n 3, 1) := by decide +kernel
theorem dX3_finishWork_29 : decode cX3_finishWork 29 = .ok (.aload_n 3, 1) := by decide +kernel
theorem dX3_finishWork_30 : decode cX3_finishWork 30 = .ok (.getfield 58, 3) := by decide +kernel
theorem dX3_finishWork_33 : decode cX3_finishWork 33 = .ok (.iload_n 1, 1) := by decide +kernel
theorem dX3_finishWork_34 : decode cX3_finishWork 34 = .ok (.if_icmp .ne 33, 3) := by decide +kernel
theorem dX3_finishWork_37 : decode cX3_finishWork 37 = .ok (.aload_n 3, 1) := by decide +kernel
theorem dX3_finishWork_38 : decode cX3_finishWork 38 = .ok (.getfield 174, 3) := by decide +kernel
theorem dX3_finishWork_41 : decode cX3_finishWork 41 = .ok (.iconst 2, 1) := by decide +kernel
theorem dX3_finishWork_42 : decode cX3_finishWork 42 = .ok (.if_icmp .ne 25, 3) := by decide +kernel
theorem dX3_finishWork_45 : decode cX3_finishWork 45 = .ok (.aload_n 3, 1) := by decide +kernel
theorem dX3_finishWork_46 : decode cX3_finishWork 46 = .ok (.dup, 1) := by decide +kernel
theorem dX3_finishWork_47 : decode cX3_finishWork 47 = .ok (.getfield 196, 3) := by decide +kernel
theorem dX3_finishWork_50 : decode cX3_finishWork 50 = .ok (.iconst 1, 1) := by decide +kernel
theorem dX3_finishWork_51 : decode cX3_finishWork 51 = .ok (.isub, 1) := by decide +kernel
theorem dX3_finishWork_52 : decode cX3_finishWork 52 = .ok (.putfield 196, 3) := by decide +kernel
theorem dX3_finishWork_55 : decode cX3_finishWork 55 = .ok (.aload_n 3, 1) := by decide +kernel
theorem dX3_finishWork_56 : decode cX3_finishWork 56 = .ok (.getfield 196, 3) := by decide +kernel
theorem dX3_finishWork_59 : decode cX3_finishWork 59 = .ok (.ifCond .gt 8, 3) := by decide +kernel
theorem dX3_finishWork_62 : decode cX3_finishWork 62 = .ok (.aload_n 0, 1) := by decide +kernel
theorem dX3_finishWork_63 : decode cX3_finishWork 63 = .ok (.iload_n 2, 1) := by decide +kernel
theorem dX3_finishWork_64 : decode cX3_finishWork 64 = .ok (.invokevirtual 199, 3) := by decide +kernel
theorem dX3_finishWork_67 : decode cX3_finishWork 67 = .ok (.iinc 2 1, 3) := by decide +kernel
theorem dX3_finishWork_70 : decode cX3_finishWork 70 = .ok (.goto (-68), 3) := by decide +kernel
theorem dX3_finishWork_73 : decode cX3_finishWork 73 = .ok (.return_, 1) := by decide +kernel
theorem dX3_finish_0 : decode cX3_finish 0 = .ok (.aload_n 0, 1) := by decide +kernel
theorem dX3_finish_1 : decode cX3_finish 1 = .ok (.getfield 19, 3) := by decide +kernel
theorem dX3_finish_4 : decode cX3_finish 4 = .ok (.iload_n 1, 1) := by decide +kernel
theorem dX3_finish_5 : decode cX3_finish 5 = .ok (.aaload, 1) := by decide +kernel
theorem dX3_finish_6 : decode cX3_finish 6 = .ok (.astore_n 2, 1) := by decide +kernel
theorem dX3_finish_7 : decode cX3_finish 7 = .ok (.aload_n 0, 1) := by decide +kernel
theorem dX3_finish_8 : decode cX3_finish 8 = .ok (.getfield 11, 3) := by decide +kernel
theorem dX3_finish_11 : decode cX3_finish 11 = .ok (.aload_n 2, 1) := by decide +kernel
theorem dX3_finish_12 : decode cX3_finish 12 = .ok (.getfield 58, 3) := by decide +kernel
theorem dX3_finish_15 : decode cX3_finish 15 = .ok (.aaload, 1) := by decide +kernel
theorem dX3_finish_16 : decode cX3_finish 16 = .ok (.astore_n 3, 1) := by decide +kernel
theorem dX3_finish_17 : decode cX3_finish 17 = .ok (.aload_n 3, 1) := by decide +kernel
theorem dX3_finish_18 : decode cX3_finish 18 = .ok (.dup, 1) := by decide +kernel
theorem dX3_finish_19 : decode cX3_finish 19 = .ok (.getfield 177, 3) := by decide +kernel
theorem dX3_finish_22 : decode cX3_finish 22 = .ok (.iconst 1, 1) := by decide +kernel
theorem dX3_finish_23 : decode cX3_finish 23 = .ok (.isub, 1) := by decide +kernel
theorem dX3_finish_24 : decode cX3_finish 24 = .ok (.putfield 177, 3) := by decide +kernel
theorem dX3_finish_27 : decode cX3_finish 27 = .ok (.aload_n 2, 1) := by decide +kernel
theorem dX3_finish_28 : decode cX3_finish 28 = .ok (.iconst 0, 1) := by decide +kernel
theorem dX3_finish_29 : decode cX3_finish 29 = .ok (.putfield 174, 3) := by decide +kernel
theorem dX3_finish_32 : decode cX3_finish 32 = .ok (.aload_n 2, 1) := by decide +kernel
theorem dX3_finish_33 : decode cX3_finish 33 = .ok (.dup, 1) := by decide +kernel
theorem dX3_finish_34 : decode cX3_finish 34 = .ok (.getfield 202, 3) := by decide +kernel
theorem dX3_finish_37 : decode cX3_finish 37 = .ok (.aload_n 2, 1) := by decide +kernel
theorem dX3_finish_38 : decode cX3_finish 38 = .ok (.getfield 61, 3) := by decide +kernel
theorem dX3_finish_41 : decode cX3_finish 41 = .ok (.iconst 2, 1) := by decide +kernel
theorem dX3_finish_42 : decode cX3_finish 42 = .ok (.if_icmp .ne 7, 3) := by decide +kernel
theorem dX3_finish_45 : decode cX3_finish 45 = .ok (.iconst 0, 1) := by decide +kernel
theorem dX3_finish_46 : decode cX3_finish 46 = .ok (.goto 4, 3) := by decide +kernel
theorem dX3_finish_49 : decode cX3_finish 49 = .ok (.iconst 1, 1) := by decide +kernel
theorem dX3_finish_50 : decode cX3_finish 50 = .ok (.iadd, 1) := by decide +kernel
theorem dX3_finish_51 : decode cX3_finish 51 = .ok (.putfield 202, 3) := by decide +kernel
theorem dX3_finish_54 : decode cX3_finish 54 = .ok (.aload_n 2, 1) := by decide +kernel
theorem dX3_finish_55 : decode cX3_finish 55 = .ok (.aload_n 0, 1) := by decide +kernel
theorem dX3_finish_56 : decode cX3_finish 56 = .ok (.getfield 37, 3) := by decide +kernel
theorem dX3_finish_59 : decode cX3_finish 59 = .ok (.aload_n 3, 1) := by decide +kernel
theorem dX3_finish_60 : decode cX3_finish 60 = .ok (.getfield 205, 3) := by decide +kernel
theorem dX3_finish_63 : decode cX3_finish 63 = .ok (.iadd, 1) := by decide +kernel
theorem dX3_finish_64 : decode cX3_finish 64 = .ok (.putfield 208, 3) := by decide +kernel
theorem dX3_finish_67 : decode cX3_finish 67 = .ok (.aload_n 0, 1) := by decide +kernel
theorem dX3_finish_68 : decode cX3_finish 68 = .ok (.iconst 2, 1) := by decide +kernel
theorem dX3_finish_69 : decode cX3_finish 69 = .ok (.iload_n 1, 1) := by decide +kernel
theorem dX3_finish_70 : decode cX3_finish 70 = .ok (.iconst 0, 1) := by decide +kernel
theorem dX3_finish_71 : decode cX3_finish 71 = .ok (.invokevirtual 90, 3) := by decide +kernel
theorem dX3_finish_74 : decode cX3_finish 74 = .ok (.pop, 1) := by decide +kernel
theorem dX3_finish_75 : decode cX3_finish 75 = .ok (.return_, 1) := by decide +kernel
theorem dX3_beginWork_0 : decode cX3_beginWork 0 = .ok (.aload_n 0, 1) := by decide +kernel
theorem dX3_beginWork_1 : decode cX3_beginWork 1 = .ok (.getfield 11, 3) := by decide +kernel
theorem dX3_beginWork_4 : decode cX3_beginWork 4 = .ok (.iload_n 1, 1) := by decide +kernel
theorem dX3_beginWork_5 : decode cX3_beginWork 5 = .ok (.aaload, 1) := by decide +kernel
theorem dX3_beginWork_6 : decode cX3_beginWork 6 = .ok (.astore_n 2, 1) := by decide +kernel
theorem dX3_beginWork_7 : decode cX3_beginWork 7 = .ok (.iconst 0, 1) := by decide +kernel
theorem dX3_beginWork_8 : decode cX3_beginWork 8 = .ok (.istore_n 3, 1) := by decide +kernel
theorem dX3_beginWork_9 : decode cX3_beginWork 9 = .ok (.iload_n 3, 1) := by decide +kernel
theorem dX3_beginWork_10 : decode cX3_beginWork 10 = .ok (.aload_n 0, 1) := by decide +kernel
theorem dX3_beginWork_11 : decode cX3_beginWork 11 = .ok (.getfield 41, 3) := by decide +kernel
theorem dX3_beginWork_14 : decode cX3_beginWork 14 = .ok (.if_icmp .ge 68, 3) := by decide +kernel
theorem dX3_beginWork_17 : decode cX3_beginWork 17 = .ok (.aload_n 2, 1) := by decide +kernel
theorem dX3_beginWork_18 : decode cX3_beginWork 18 = .ok (.getfield 180, 3) := by decide +kernel
theorem dX3_beginWork_21 : decode cX3_beginWork 21 = .ok (.ifCond .le 61, 3) := by decide +kernel
theorem dX3_beginWork_24 : decode cX3_beginWork 24 = .ok (.aload_n 2, 1) := by decide +kernel
theorem dX3_beginWork_25 : decode cX3_beginWork 25 = .ok (.getfield 177, 3) := by decide +kernel
theorem dX3_beginWork_28 : decode cX3_beginWork 28 = .ok (.aload_n 2, 1) := by decide +kernel
theorem dX3_beginWork_29 : decode cX3_beginWork 29 = .ok (.getfield 183, 3) := by decide +kernel
theorem dX3_beginWork_32 : decode cX3_beginWork 32 = .ok (.if_icmp .ge 50, 3) := by decide +kernel
theorem dX3_beginWork_35 : decode cX3_beginWork 35 = .ok (.aload_n 0, 1) := by decide +kernel
theorem dX3_beginWork_36 : decode cX3_beginWork 36 = .ok (.getfield 19, 3) := by decide +kernel
theorem dX3_beginWork_39 : decode cX3_beginWork 39 = .ok (.iload_n 3, 1) := by decide +kernel
theorem dX3_beginWork_40 : decode cX3_beginWork 40 = .ok (.aaload, 1) := by decide +kernel
theorem dX3_beginWork_41 : decode cX3_beginWork 41 = .ok (.getfield 58, 3) := by decide +kernel
theorem dX3_beginWork_44 : decode cX3_beginWork 44 = .ok (.iload_n 1, 1) := by decide +kernel
theorem dX3_beginWork_45 : decode cX3_beginWork 45 = .ok (.if_icmp .ne 31, 3) := by decide +kernel
theorem dX3_beginWork_48 : decode cX3_beginWork 48 = .ok (.aload_n 0, 1) := by decide +kernel
theorem dX3_beginWork_49 : decode cX3_beginWork 49 = .ok (.getfield 19, 3) := by decide +kernel
theorem dX3_beginWork_52 : decode cX3_beginWork 52 = .ok (.iload_n 3, 1) := by decide +kernel
theorem dX3_beginWork_53 : decode cX3_beginWork 53 = .ok (.aaload, 1) := by decide +kernel
theorem dX3_beginWork_54 : decode cX3_beginWork 54 = .ok (.getfield 174, 3) := by decide +kernel
theorem dX3_beginWork_57 : decode cX3_beginWork 57 = .ok (.iconst 1, 1) := by decide +kernel
theorem dX3_beginWork_58 : decode cX3_beginWork 58 = .ok (.if_icmp .ne 18, 3) := by decide +kernel
theorem dX3_beginWork_61 : decode cX3_beginWork 61 = .ok (.aload_n 2, 1) := by decide +kernel
theorem dX3_beginWork_62 : decode cX3_beginWork 62 = .ok (.dup, 1) := by decide +kernel
theorem dX3_beginWork_63 : decode cX3_beginWork 63 = .ok (.getfield 180, 3) := by decide +kernel
theorem dX3_beginWork_66 : decode cX3_beginWork 66 = .ok (.iconst 1, 1) := by decide +kernel
theorem dX3_beginWork_67 : decode cX3_beginWork 67 = .ok (.isub, 1) := by decide +kernel
theorem dX3_beginWork_68 : decode cX3_beginWork 68 = .ok (.putfield 180, 3) := by decide +kernel
theorem dX3_beginWork_71 : decode cX3_beginWork 71 = .ok (.aload_n 0, 1) := by decide +kernel
theorem dX3_beginWork_72 : decode cX3_beginWork 72 = .ok (.iload_n 3, 1) := by decide +kernel
theorem dX3_beginWork_73 : decode cX3_beginWork 73 = .ok (.invokevirtual 211, 3) := by decide +kernel
theorem dX3_beginWork_76 : decode cX3_beginWork 76 = .ok (.iinc 3 1, 3) := by decide +kernel
theorem dX3_beginWork_79 : decode cX3_beginWork 79 = .ok (.goto (-70), 3) := by decide +kernel
theorem dX3_beginWork_82 : decode cX3_beginWork 82 = .ok (.return_, 1) := by decide +kernel
theorem dX3_begin_0 : decode cX3_begin 0 = .ok (.aload_n 0, 1) := by decide +kernel
theorem dX3_begin_1 : decode cX3_begin 1 = .ok (.getfield 19, 3) := by decide +kernel
theorem dX3_begin_4 : decode cX3_begin 4 = .ok (.iload_n 1, 1) := by decide +kernel
theorem dX3_begin_5 : decode cX3_begin 5 = .ok (.aaload, 1) := by decide +kernel
theorem dX3_begin_6 : decode cX3_begin 6 = .ok (.astore_n 2, 1) := by decide +kernel
theorem dX3_begin_7 : decode cX3_begin 7 = .ok (.aload_n 0, 1) := by decide +kernel
theorem dX3_begin_8 : decode cX3_begin 8 = .ok (.getfield 37, 3) := by decide +kernel
theorem dX3_begin_11 : decode cX3_begin 11 = .ok (.aload_n 2, 1) := by decide +kernel
theorem dX3_begin_12 : decode cX3_begin 12 = .ok (.getfield 64, 3) := by decide +kernel
theorem dX3_begin_15 : decode cX3_begin 15 = .ok (.iadd, 1) := by decide +kernel
theorem dX3_begin_16 : decode cX3_begin 16 = .ok (.aload_n 2, 1) := by decide +kernel
theorem dX3_begin_17 : decode cX3_begin 17 = .ok (.getfield 73, 3) := by decide +kernel
theorem dX3_begin_20 : decode cX3_begin 20 = .ok (.if_icmp .le 20, 3) := by decide +kernel
theorem dX3_begin_23 : decode cX3_begin 23 = .ok (.aload_n 2, 1) := by decide +kernel
theorem dX3_begin_24 : decode cX3_begin 24 = .ok (.iconst 0, 1) := by decide +kernel
theorem dX3_begin_25 : decode cX3_begin 25 = .ok (.putfield 174, 3) := by decide +kernel
theorem dX3_begin_28 : decode cX3_begin 28 = .ok (.aload_n 0, 1) := by decide +kernel
theorem dX3_begin_29 : decode cX3_begin 29 = .ok (.iconst 3, 1) := by decide +kernel
theorem dX3_begin_30 : decode cX3_begin 30 = .ok (.iload_n 1, 1) := by decide +kernel
theorem dX3_begin_31 : decode cX3_begin 31 = .ok (.bipush 6, 2) := by decide +kernel
theorem dX3_begin_33 : decode cX3_begin 33 = .ok (.invokevirtual 90, 3) := by decide +kernel
theorem dX3_begin_36 : decode cX3_begin 36 = .ok (.pop, 1) := by decide +kernel
theorem dX3_begin_37 : decode cX3_begin 37 = .ok (.goto 34, 3) := by decide +kernel
theorem dX3_begin_40 : decode cX3_begin 40 = .ok (.aload_n 2, 1) := by decide +kernel
theorem dX3_begin_41 : decode cX3_begin 41 = .ok (.iconst 2, 1) := by decide +kernel
theorem dX3_begin_42 : decode cX3_begin 42 = .ok (.putfield 174, 3) := by decide +kernel
theorem dX3_begin_45 : decode cX3_begin 45 = .ok (.aload_n 2, 1) := by decide +kernel
theorem dX3_begin_46 : decode cX3_begin 46 = .ok (.aload_n 2, 1) := by decide +kernel
theorem dX3_begin_47 : decode cX3_begin 47 = .ok (.getfield 64, 3) := by decide +kernel
theorem dX3_begin_50 : decode cX3_begin 50 = .ok (.putfield 196, 3) := by decide +kernel
theorem dX3_begin_53 : decode cX3_begin 53 = .ok (.aload_n 0, 1) := by decide +kernel
theorem dX3_begin_54 : decode cX3_begin 54 = .ok (.getfield 11, 3) := by decide +kernel
theorem dX3_begin_57 : decode cX3_begin 57 = .ok (.aload_n 2, 1) := by decide +kernel
theorem dX3_begin_58 : decode cX3_begin 58 = .ok (.getfield 58, 3) := by decide +kernel
theorem dX3_begin_61 : decode cX3_begin 61 = .ok (.aaload, 1) := by decide +kernel
theorem dX3_begin_62 : decode cX3_begin 62 = .ok (.dup, 1) := by decide +kernel
theorem dX3_begin_63 : decode cX3_begin 63 = .ok (.getfield 177, 3) := by decide +kernel
theorem dX3_begin_66 : decode cX3_begin 66 = .ok (.iconst 1, 1) := by decide +kernel
theorem dX3_begin_67 : decode cX3_begin 67 = .ok (.iadd, 1) := by decide +kernel
theorem dX3_begin_68 : decode cX3_begin 68 = .ok (.putfield 177, 3) := by decide +kernel
theorem dX3_begin_71 : decode cX3_begin 71 = .ok (.return_, 1) := by decide +kernel
theorem dX3_watchCalls_0 : decode cX3_watchCalls 0 = .ok (.iconst 0, 1) := by decide +kernel
theorem dX3_watchCalls_1 : decode cX3_watchCalls 1 = .ok (.istore_n 1, 1) := by decide +kernel
theorem dX3_watchCalls_2 : decode cX3_watchCalls 2 = .ok (.iload_n 1, 1) := by decide +kernel
theorem dX3_watchCalls_3 : decode cX3_watchCalls 3 = .ok (.aload_n 0, 1) := by decide +kernel
theorem dX3_watchCalls_4 : decode cX3_watchCalls 4 = .ok (.getfield 41, 3) := by decide +kernel
theorem dX3_watchCalls_7 : decode cX3_watchCalls 7 = .ok (.if_icmp .ge 33, 3) := by decide +kernel
theorem dX3_watchCalls_10 : decode cX3_watchCalls 10 = .ok (.aload_n 0, 1) := by decide +kernel
theorem dX3_watchCalls_11 : decode cX3_watchCalls 11 = .ok (.getfield 44, 3) := by decide +kernel
theorem dX3_watchCalls_14 : decode cX3_watchCalls 14 = .ok (.ifCond .le 26, 3) := by decide +kernel
theorem dX3_watchCalls_17 : decode cX3_watchCalls 17 = .ok (.aload_n 0, 1) := by decide +kernel
theorem dX3_watchCalls_18 : decode cX3_watchCalls 18 = .ok (.getfield 19, 3) := by decide +kernel
theorem dX3_watchCalls_21 : decode cX3_watchCalls 21 = .ok (.iload_n 1, 1) := by decide +kernel
theorem dX3_watchCalls_22 : decode cX3_watchCalls 22 = .ok (.aaload, 1) := by decide +kernel
theorem dX3_watchCalls_23 : decode cX3_watchCalls 23 = .ok (.getfield 94, 3) := by decide +kernel
theorem dX3_watchCalls_26 : decode cX3_watchCalls 26 = .ok (.ifCond .ne 8, 3) := by decide +kernel
theorem dX3_watchCalls_29 : decode cX3_watchCalls 29 = .ok (.aload_n 0, 1) := by decide +kernel
theorem dX3_watchCalls_30 : decode cX3_watchCalls 30 = .ok (.iload_n 1, 1) := by decide +kernel
theorem dX3_watchCalls_31 : decode cX3_watchCalls 31 = .ok (.invokevirtual 214, 3) := by decide +kernel
theorem dX3_watchCalls_34 : decode cX3_watchCalls 34 = .ok (.iinc 1 1, 3) := by decide +kernel
theorem dX3_watchCalls_37 : decode cX3_watchCalls 37 = .ok (.goto (-35), 3) := by decide +kernel
theorem dX3_watchCalls_40 : decode cX3_watchCalls 40 = .ok (.return_, 1) := by decide +kernel
theorem dX3_watch_0 : decode cX3_watch 0 = .ok (.aload_n 0, 1) := by decide +kernel
theorem dX3_watch_1 : decode cX3_watch 1 = .ok (.getfield 19, 3) := by decide +kernel
theorem dX3_watch_4 : decode cX3_watch 4 = .ok (.iload_n 1, 1) := by decide +kernel
theorem dX3_watch_5 : decode cX3_watch 5 = .ok (.aaload, 1) := by decide +kernel
theorem dX3_watch_6 : decode cX3_watch 6 = .ok (.astore_n 2, 1) := by decide +kernel
theorem dX3_watch_7 : decode cX3_watch 7 = .ok (.aload_n 0, 1) := by decide +kernel
theorem dX3_watch_8 : decode cX3_watch 8 = .ok (.getfield 37, 3) := by decide +kernel
theorem dX3_watch_11 : decode cX3_watch 11 = .ok (.aload_n 2, 1) := by decide +kernel
theorem dX3_watch_12 : decode cX3_watch 12 = .ok (.getfield 73, 3) := by decide +kernel
theorem dX3_watch_15 : decode cX3_watch 15 = .ok (.if_icmp .le 13, 3) := by decide +kernel
theorem dX3_watch_18 : decode cX3_watch 18 = .ok (.aload_n 0, 1) := by decide +kernel
theorem dX3_watch_19 : decode cX3_watch 19 = .ok (.iload_n 1, 1) := by decide +kernel
theorem dX3_watch_20 : decode cX3_watch 20 = .ok (.bipush 6, 2) := by decide +kernel
theorem dX3_watch_22 : decode cX3_watch 22 = .ok (.invokevirtual 217, 3) := by decide +kernel
theorem dX3_watch_25 : decode cX3_watch 25 = .ok (.goto 70, 3) := by decide +kernel
theorem dX3_watch_28 : decode cX3_watch 28 = .ok (.aload_n 0, 1) := by decide +kernel
theorem dX3_watch_29 : decode cX3_watch 29 = .ok (.getfield 37, 3) := by decide +kernel
theorem dX3_watch_32 : decode cX3_watch 32 = .ok (.aload_n 2, 1) := by decide +kernel
theorem dX3_watch_33 : decode cX3_watch 33 = .ok (.getfield 87, 3) := by decide +kernel
theorem dX3_watch_36 : decode cX3_watch 36 = .ok (.isub, 1) := by decide +kernel
theorem dX3_watch_37 : decode cX3_watch 37 = .ok (.aload_n 2, 1) := by decide +kernel
theorem dX3_watch_38 : decode cX3_watch 38 = .ok (.getfield 64, 3) := by decide +kernel
theorem dX3_watch_41 : decode cX3_watch 41 = .ok (.iconst 4, 1) := by decide +kernel
theorem dX3_watch_42 : decode cX3_watch 42 = .ok (.iadd, 1) := by decide +kernel
theorem dX3_watch_43 : decode cX3_watch 43 = .ok (.iconst 1, 1) := by decide +kernel
theorem dX3_watch_44 : decode cX3_watch 44 = .ok (.aload_n 2, 1) := by decide +kernel
theorem dX3_watch_45 : decode cX3_watch 45 = .ok (.getfield 190, 3) := by decide +kernel
theorem dX3_watch_48 : decode cX3_watch 48 = .ok (.ishl, 1) := by decide +kernel
theorem dX3_watch_49 : decode cX3_watch 49 = .ok (.iadd, 1) := by decide +kernel
theorem dX3_watch_50 : decode cX3_watch 50 = .ok (.if_icmp .lt 45, 3) := by decide +kernel
theorem dX3_watch_53 : decode cX3_watch 53 = .ok (.aload_n 2, 1) := by decide +kernel
theorem dX3_watch_54 : decode cX3_watch 54 = .ok (.getfield 67, 3) := by decide +kernel
theorem dX3_watch_57 : decode cX3_watch 57 = .ok (.ifCond .le 31, 3) := by decide +kernel
theorem dX3_watch_60 : decode cX3_watch 60 = .ok (.aload_n 2, 1) := by decide +kernel
theorem dX3_watch_61 : decode cX3_watch 61 = .ok (.dup, 1) := by decide +kernel
theorem dX3_watch_62 : decode cX3_watch 62 = .ok (.getfield 67, 3) := by decide +kernel
theorem dX3_watch_65 : decode cX3_watch 65 = .ok (.iconst 1, 1) := by decide +kernel
theorem dX3_watch_66 : decode cX3_watch 66 = .ok (.isub, 1) := by decide +kernel
theorem dX3_watch_67 : decode cX3_watch 67 = .ok (.putfield 67, 3) := by decide +kernel
theorem dX3_watch_70 : decode cX3_watch 70 = .ok (.aload_n 2, 1) := by decide +kernel
theorem dX3_watch_71 : decode cX3_watch 71 = .ok (.dup, 1) := by decide +kernel
theorem dX3_watch_72 : decode cX3_watch 72 = .ok (.getfield 190, 3) := by decide +kernel
theorem dX3_watch_75 : decode cX3_watch 75 = .ok (.iconst 1, 1) := by decide +kernel
theorem dX3_watch_76 : decode cX3_watch 76 = .ok (.iadd, 1) := by decide +kernel
theorem dX3_watch_77 : decode cX3_watch 77 = .ok (.putfield 190, 3) := by decide +kernel
theorem dX3_watch_80 : decode cX3_watch 80 = .ok (.aload_n 0, 1) := by decide +kernel
theorem dX3_watch_81 : decode cX3_watch 81 = .ok (.iload_n 1, 1) := by decide +kernel
theorem dX3_watch_82 : decode cX3_watch 82 = .ok (.invokevirtual 76, 3) := by decide +kernel
theorem dX3_watch_85 : decode cX3_watch 85 = .ok (.goto 10, 3) := by decide +kernel
theorem dX3_watch_88 : decode cX3_watch 88 = .ok (.aload_n 0, 1) := by decide +kernel
theorem dX3_watch_89 : decode cX3_watch 89 = .ok (.iload_n 1, 1) := by decide +kernel
theorem dX3_watch_90 : decode cX3_watch 90 = .ok (.bipush 7, 2) := by decide +kernel
theorem dX3_watch_92 : decode cX3_watch 92 = .ok (.invokevirtual 100, 3) := by decide +kernel
theorem dX3_watch_95 : decode cX3_watch 95 = .ok (.return_, 1) := by decide +kernel
theorem dX3_isKept_0 : decode cX3_isKept 0 = .ok (.aload_n 1, 1) := by decide +kernel
theorem dX3_isKept_1 : decode cX3_isKept 1 = .ok (.getfield 208, 3) := by decide +kernel
theorem dX3_isKept_4 : decode cX3_isKept 4 = .ok (.aload_n 0, 1) := by decide +kernel
theorem dX3_isKept_5 : decode cX3_isKept 5 = .ok (.getfield 37, 3) := by decide +kernel
theorem dX3_isKept_8 : decode cX3_isKept 8 = .ok (.if_icmp .lt 7, 3) := by decide +kernel
theorem dX3_isKept_11 : decode cX3_isKept 11 = .ok (.iconst 1, 1) := by decide +kernel
theorem dX3_isKept_12 : decode cX3_isKept 12 = .ok (.goto 4, 3) := by decide +kernel
theorem dX3_isKept_15 : decode cX3_isKept 15 = .ok (.iconst 0, 1) := by decide +kernel
theorem dX3_isKept_16 : decode cX3_isKept 16 = .ok (.ireturn, 1) := by decide +kernel
theorem dX3_namesKept_0 : decode cX3_namesKept 0 = .ok (.iconst 0, 1) := by decide +kernel
theorem dX3_namesKept_1 : decode cX3_namesKept 1 = .ok (.istore_n 2, 1) := by decide +kernel
theorem dX3_namesKept_2 : decode cX3_namesKept 2 = .ok (.iconst 0, 1) := by decide +kernel
theorem dX3_namesKept_3 : decode cX3_namesKept 3 = .ok (.istore_n 3, 1) := by decide +kernel
theorem dX3_namesKept_4 : decode cX3_namesKept 4 = .ok (.iload_n 3, 1) := by decide +kernel
theorem dX3_namesKept_5 : decode cX3_namesKept 5 = .ok (.aload_n 0, 1) := by decide +kernel
theorem dX3_namesKept_6 : decode cX3_namesKept 6 = .ok (.getfield 41, 3) := by decide +kernel
theorem dX3_namesKept_9 : decode cX3_namesKept 9 = .ok (.if_icmp .ge 43, 3) := by decide +kernel
theorem dX3_namesKept_12 : decode cX3_namesKept 12 = .ok (.iload_n 2, 1) := by decide +kernel
theorem dX3_namesKept_13 : decode cX3_namesKept 13 = .ok (.aload_n 0, 1) := by decide +kernel
theorem dX3_namesKept_14 : decode cX3_namesKept 14 = .ok (.getfield 19, 3) := by decide +kernel
theorem dX3_namesKept_17 : decode cX3_namesKept 17 = .ok (.iload_n 3, 1) := by decide +kernel
theorem dX3_namesKept_18 : decode cX3_namesKept 18 = .ok (.aaload, 1) := by decide +kernel
theorem dX3_namesKept_19 : decode cX3_namesKept 19 = .ok (.getfield 58, 3) := by decide +kernel
theorem dX3_namesKept_22 : decode cX3_namesKept 22 = .ok (.iload_n 1, 1) := by decide +kernel
theorem dX3_namesKept_23 : decode cX3_namesKept 23 = .ok (.if_icmp .ne 20, 3) := by decide +kernel
theorem dX3_namesKept_26 : decode cX3_namesKept 26 = .ok (.aload_n 0, 1) := by decide +kernel
theorem dX3_namesKept_27 : decode cX3_namesKept 27 = .ok (.aload_n 0, 1) := by decide +kernel
theorem dX3_namesKept_28 : decode cX3_namesKept 28 = .ok (.getfield 19, 3) := by decide +kernel
theorem dX3_namesKept_31 : decode cX3_namesKept 31 = .ok (.iload_n 3, 1) := by decide +kernel
theorem dX3_namesKept_32 : decode cX3_namesKept 32 = .ok (.aaload, 1) := by decide +kernel
theorem dX3_namesKept_33 : decode cX3_namesKept 33 = .ok (.invokevirtual 186, 3) := by decide +kernel
theorem dX3_namesKept_36 : decode cX3_namesKept 36 = .ok (.ifCond .eq 7, 3) := by decide +kernel
theorem dX3_namesKept_39 : decode cX3_namesKept 39 = .ok (.iconst 1, 1) := by decide +kernel
theorem dX3_namesKept_40 : decode cX3_namesKept 40 = .ok (.goto 4, 3) := by decide +kernel
theorem dX3_namesKept_43 : decode cX3_namesKept 43 = .ok (.iconst 0, 1) := by decide +kernel
theorem dX3_namesKept_44 : decode cX3_namesKept 44 = .ok (.iadd, 1) := by decide +kernel
theorem dX3_namesKept_45 : decode cX3_namesKept 45 = .ok (.istore_n 2, 1) := by decide +kernel
theorem dX3_namesKept_46 : decode cX3_namesKept 46 = .ok (.iinc 3 1, 3) := by decide +kernel
theorem dX3_namesKept_49 : decode cX3_namesKept 49 = .ok (.goto (-45), 3) := by decide +kernel
theorem dX3_namesKept_52 : decode cX3_namesKept 52 = .ok (.iload_n 2, 1) := by decide +kernel
theorem dX3_namesKept_53 : decode cX3_namesKept 53 = .ok (.ireturn, 1) := by decide +kernel
theorem dX3_answeredCount_0 : decode cX3_answeredCount 0 = .ok (.iconst 0, 1) := by decide +kernel
theorem dX3_answeredCount_1 : decode cX3_answeredCount 1 = .ok (.istore_n 1, 1) := by decide +kernel
theorem dX3_answeredCount_2 : decode cX3_answeredCount 2 = .ok (.iconst 0, 1) := by decide +kernel
theorem dX3_answeredCount_3 : decode cX3_answeredCount 3 = .ok (.istore_n 2, 1) := by decide +kernel
theorem dX3_answeredCount_4 : decode cX3_answeredCount 4 = .ok (.iload_n 2, 1) := by decide +kernel
theorem dX3_answeredCount_5 : decode cX3_answeredCount 5 = .ok (.aload_n 0, 1) := by decide +kernel
theorem dX3_answeredCount_6 : decode cX3_answeredCount 6 = .ok (.getfield 41, 3) := by decide +kernel
theorem dX3_answeredCount_9 : decode cX3_answeredCount 9 = .ok (.if_icmp .ge 30, 3) := by decide +kernel
theorem dX3_answeredCount_12 : decode cX3_answeredCount 12 = .ok (.iload_n 1, 1) := by decide +kernel
theorem dX3_answeredCount_13 : decode cX3_answeredCount 13 = .ok (.aload_n 0, 1) := by decide +kernel
theorem dX3_answeredCount_14 : decode cX3_answeredCount 14 = .ok (.getfield 19, 3) := by decide +kernel
theorem dX3_answeredCount_17 : decode cX3_answeredCount 17 = .ok (.iload_n 2, 1) := by decide +kernel
theorem dX3_answeredCount_18 : decode cX3_answeredCount 18 = .ok (.aaload, 1) := by decide +kernel
theorem dX3_answeredCount_19 : decode cX3_answeredCount 19 = .ok (.getfield 94, 3) := by decide +kernel
theorem dX3_answeredCount_22 : decode cX3_answeredCount 22 = .ok (.iconst 3, 1) := by decide +kernel
theorem dX3_answeredCount_23 : decode cX3_answeredCount 23 = .ok (.if_icmp .ne 7, 3) := by decide +kernel
theorem dX3_answeredCount_26 : decode cX3_answeredCount 26 = .ok (.iconst 1, 1) := by decide +kernel
theorem dX3_answeredCount_27 : decode cX3_answeredCount 27 = .ok (.goto 4, 3) := by decide +kernel
theorem dX3_answeredCount_30 : decode cX3_answeredCount 30 = .ok (.iconst 0, 1) := by decide +kernel
theorem dX3_answeredCount_31 : decode cX3_answeredCount 31 = .ok (.iadd, 1) := by decide +kernel
theorem dX3_answeredCount_32 : decode cX3_answeredCount 32 = .ok (.istore_n 1, 1) := by decide +kernel
theorem dX3_answeredCount_33 : decode cX3_answeredCount 33 = .ok (.iinc 2 1, 3) := by decide +kernel
theorem dX3_answeredCount_36 : decode cX3_answeredCount 36 = .ok (.goto (-32), 3) := by decide +kernel
theorem dX3_answeredCount_39 : decode cX3_answeredCount 39 = .ok (.iload_n 1, 1) := by decide +kernel
theorem dX3_answeredCount_40 : decode cX3_answeredCount 40 = .ok (.ireturn, 1) := by decide +kernel
theorem dX3_answeredTicks_0 : decode cX3_answeredTicks 0 = .ok (.lconst 0, 1) := by decide +kernel
theorem dX3_answeredTicks_1 : decode cX3_answeredTicks 1 = .ok (.lstore_n 1, 1) := by decide +kernel
theorem dX3_answeredTicks_2 : decode cX3_answeredTicks 2 = .ok (.iconst 0, 1) := by decide +kernel
theorem dX3_answeredTicks_3 : decode cX3_answeredTicks 3 = .ok (.istore_n 3, 1) := by decide +kernel
theorem dX3_answeredTicks_4 : decode cX3_answeredTicks 4 = .ok (.iload_n 3, 1) := by decide +kernel
theorem dX3_answeredTicks_5 : decode cX3_answeredTicks 5 = .ok (.aload_n 0, 1) := by decide +kernel
theorem dX3_answeredTicks_6 : decode cX3_answeredTicks 6 = .ok (.getfield 41, 3) := by decide +kernel
theorem dX3_answeredTicks_9 : decode cX3_answeredTicks 9 = .ok (.if_icmp .ge 49, 3) := by decide +kernel
theorem dX3_answeredTicks_12 : decode cX3_answeredTicks 12 = .ok (.lload_n 1, 1) := by decide +kernel
theorem dX3_answeredTicks_13 : decode cX3_answeredTicks 13 = .ok (.aload_n 0, 1) := by decide +kernel
theorem dX3_answeredTicks_14 : decode cX3_answeredTicks 14 = .ok (.getfield 19, 3) := by decide +kernel
theorem dX3_answeredTicks_17 : decode cX3_answeredTicks 17 = .ok (.iload_n 3, 1) := by decide +kernel
theorem dX3_answeredTicks_18 : decode cX3_answeredTicks 18 = .ok (.aaload, 1) := by decide +kernel
theorem dX3_answeredTicks_19 : decode cX3_answeredTicks 19 = .ok (.getfield 94, 3) := by decide +kernel
theorem dX3_answeredTicks_22 : decode cX3_answeredTicks 22 = .ok (.iconst 3, 1) := by decide +kernel
theorem dX3_answeredTicks_23 : decode cX3_answeredTicks 23 = .ok (.if_icmp .ne 26, 3) := by decide +kernel
theorem dX3_answeredTicks_26 : decode cX3_answeredTicks 26 = .ok (.aload_n 0, 1) := by decide +kernel
theorem dX3_answeredTicks_27 : decode cX3_answeredTicks 27 = .ok (.getfield 19, 3) := by decide +kernel
theorem dX3_answeredTicks_30 : decode cX3_answeredTicks 30 = .ok (.iload_n 3, 1) := by decide +kernel
theorem dX3_answeredTicks_31 : decode cX3_answeredTicks 31 = .ok (.aaload, 1) := by decide +kernel
theorem dX3_answeredTicks_32 : decode cX3_answeredTicks 32 = .ok (.getfield 97, 3) := by decide +kernel
theorem dX3_answeredTicks_35 : decode cX3_answeredTicks 35 = .ok (.aload_n 0, 1) := by decide +kernel
theorem dX3_answeredTicks_36 : decode cX3_answeredTicks 36 = .ok (.getfield 19, 3) := by decide +kernel
theorem dX3_answeredTicks_39 : decode cX3_answeredTicks 39 = .ok (.iload_n 3, 1) := by decide +kernel
theorem dX3_answeredTicks_40 : decode cX3_answeredTicks 40 = .ok (.aaload, 1) := by decide +kernel
theorem dX3_answeredTicks_41 : decode cX3_answeredTicks 41 = .ok (.getfield 70, 3) := by decide +kernel
theorem dX3_answeredTicks_44 : decode cX3_answeredTicks 44 = .ok (.isub, 1) := by decide +kernel
theorem dX3_answeredTicks_45 : decode cX3_answeredTicks 45 = .ok (.i2l, 1) := by decide +kernel
theorem dX3_answeredTicks_46 : decode cX3_answeredTicks 46 = .ok (.goto 4, 3) := by decide +kernel
theorem dX3_answeredTicks_49 : decode cX3_answeredTicks 49 = .ok (.lconst 0, 1) := by decide +kernel
theorem dX3_answeredTicks_50 : decode cX3_answeredTicks 50 = .ok (.ladd, 1) := by decide +kernel
theorem dX3_answeredTicks_51 : decode cX3_answeredTicks 51 = .ok (.lstore_n 1, 1) := by decide +kernel
theorem dX3_answeredTicks_52 : decode cX3_answeredTicks 52 = .ok (.iinc 3 1, 3) := by decide +kernel
theorem dX3_answeredTicks_55 : decode cX3_answeredTicks 55 = .ok (.goto (-51), 3) := by decide +kernel
theorem dX3_answeredTicks_58 : decode cX3_answeredTicks 58 = .ok (.lload_n 1, 1) := by decide +kernel
theorem dX3_answeredTicks_59 : decode cX3_answeredTicks 59 = .ok (.lreturn, 1) := by decide +kernel
theorem dX4_init_0 : decode cX4_init 0 = .ok (.aload_n 0, 1) := by decide +kernel
theorem dX4_init_1 : decode cX4_init 1 = .ok (.invokespecial 3, 3) := by decide +kernel
theorem dX4_init_4 : decode cX4_init 4 = .ok (.aload_n 0, 1) := by decide +kernel
theorem dX4_init_5 : decode cX4_init 5 = .ok (.new 9, 3) := by decide +kernel
theorem dX4_init_8 : decode cX4_init 8 = .ok (.dup, 1) := by decide +kernel
theorem dX4_init_9 : decode cX4_init 9 = .ok (.bipush 120, 2) := by decide +kernel
theorem dX4_init_11 : decode cX4_init 11 = .ok (.invokespecial 11, 3) := by decide +kernel
theorem dX4_init_14 : decode cX4_init 14 = .ok (.putfield 14, 3) := by decide +kernel
theorem dX4_init_17 : decode cX4_init 17 = .ok (.aload_n 0, 1) := by decide +kernel
theorem dX4_init_18 : decode cX4_init 18 = .ok (.new 9, 3) := by decide +kernel
theorem dX4_init_21 : decode cX4_init 21 = .ok (.dup, 1) := by decide +kernel
theorem dX4_init_22 : decode cX4_init 22 = .ok (.bipush 60, 2) := by decide +kernel
theorem dX4_init_24 : decode cX4_init 24 = .ok (.invokespecial 11, 3) := by decide +kernel
theorem dX4_init_27 : decode cX4_init 27 = .ok (.putfield 20, 3) := by decide +kernel
theorem dX4_init_30 : decode cX4_init 30 = .ok (.aload_n 0, 1) := by decide +kernel
theorem dX4_init_31 : decode cX4_init 31 = .ok (.iconst 0, 1) := by decide +kernel
theorem dX4_init_32 : decode cX4_init 32 = .ok (.putfield 23, 3) := by decide +kernel
theorem dX4_init_35 : decode cX4_init 35 = .ok (.aload_n 0, 1) := by decide +kernel
theorem dX4_init_36 : decode cX4_init 36 = .ok (.iconst 0, 1) := by decide +kernel
theorem dX4_init_37 : decode cX4_init 37 = .ok (.putfield 27, 3) := by decide +kernel
theorem dX4_init_40 : decode cX4_init 40 = .ok (.aload_n 0, 1) := by decide +kernel
theorem dX4_init_41 : decode cX4_init 41 = .ok (.iconst 0, 1) := by decide +kernel
theorem dX4_init_42 : decode cX4_init 42 = .ok (.putfield 30, 3) := by decide +kernel
theorem dX4_init_45 : decode cX4_init 45 = .ok (.aload_n 0, 1) := by decide +kernel
theorem dX4_init_46 : decode cX4_init 46 = .ok (.bipush 16, 2) := by decide +kernel
theorem dX4_init_48 : decode cX4_init 48 = .ok (.newarray .int, 2) := by decide +kernel
theorem dX4_init_50 : decode cX4_init 50 = .ok (.putfield 33, 3) := by decide +kernel
theorem dX4_init_53 : decode cX4_init 53 = .ok (.aload_n 0, 1) := by decide +kernel
theorem dX4_init_54 : decode cX4_init 54 = .ok (.new 9, 3) := by decide +kernel
theorem dX4_init_57 : decode cX4_init 57 = .ok (.dup, 1) := by decide +kernel
theorem dX4_init_58 : decode cX4_init 58 = .ok (.bipush 60, 2) := by decide +kernel
theorem dX4_init_60 : decode cX4_init 60 = .ok (.invokespecial 11, 3) := by decide +kernel
theorem dX4_init_63 : decode cX4_init 63 = .ok (.putfield 37, 3) := by decide +kernel
theorem dX4_init_66 : decode cX4_init 66 = .ok (.aload_n 0, 1) := by decide +kernel
theorem dX4_init_67 : decode cX4_init 67 = .ok (.iconst 0, 1) := by decide +kernel
theorem dX4_init_68 : decode cX4_init 68 = .ok (.putfield 40, 3) := by decide +kernel
theorem dX4_init_71 : decode cX4_init 71 = .ok (.aload_n 0, 1) := by decide +kernel
theorem dX4_init_72 : decode cX4_init 72 = .ok (.iconst 0, 1) := by decide +kernel
theorem dX4_init_73 : decode cX4_init 73 = .ok (.putfield 43, 3) := by decide +kernel
theorem dX4_init_76 : decode cX4_init 76 = .ok (.aload_n 0, 1) := by decide +kernel
theorem dX4_init_77 : decode cX4_init 77 = .ok (.iconst 0, 1) := by decide +kernel
theorem dX4_init_78 : decode cX4_init 78 = .ok (.putfield 46, 3) := by decide +kernel
theorem dX4_init_81 : decode cX4_init 81 = .ok (.return_, 1) := by decide +kernel
theorem dX4_wrongPlace_0 : decode cX4_wrongPlace 0 = .ok (.aload_n 0, 1) := by decide +kernel
theorem dX4_wrongPlace_1 : decode cX4_wrongPlace 1 = .ok (.getfield 37, 3) := by decide +kernel
theorem dX4_wrongPlace_4 : decode cX4_wrongPlace 4 = .ok (.iconst 0, 1) := by decide +kernel
theorem dX4_wrongPlace_5 : decode cX4_wrongPlace 5 = .ok (.putfield 49, 3) := by decide +kernel
theorem dX4_wrongPlace_8 : decode cX4_wrongPlace 8 = .ok (.aload_n 0, 1) := by decide +kernel
theorem dX4_wrongPlace_9 : decode cX4_wrongPlace 9 = .ok (.iconst 0, 1) := by decide +kernel
theorem dX4_wrongPlace_10 : decode cX4_wrongPlace 10 = .ok (.putfield 40, 3) := by decide +kernel
theorem dX4_wrongPlace_13 : decode cX4_wrongPlace 13 = .ok (.aload_n 0, 1) := by decide +kernel
theorem dX4_wrongPlace_14 : decode cX4_wrongPlace 14 = .ok (.iconst 0, 1) := by decide +kernel
theorem dX4_wrongPlace_15 : decode cX4_wrongPlace 15 = .ok (.putfield 43, 3) := by decide +kernel
theorem dX4_wrongPlace_18 : decode cX4_wrongPlace 18 = .ok (.iconst 0, 1) := by decide +kernel
theorem dX4_wrongPlace_19 : decode cX4_wrongPlace 19 = .ok (.istore 4, 2) := by decide +kernel
theorem dX4_wrongPlace_21 : decode cX4_wrongPlace 21 = .ok (.iconst 0, 1) := by decide +kernel
theorem dX4_wrongPlace_22 : decode cX4_wrongPlace 22 = .ok (.istore 5, 2) := by decide +kernel
theorem dX4_wrongPlace_24 : decode cX4_wrongPlace 24 = .ok (.iload 5, 2) := by decide +kernel
theorem dX4_wrongPlace_26 : decode cX4_wrongPlace 26 = .ok (.bipush 60, 2) := by decide +kernel
theorem dX4_wrongPlace_28 : decode cX4_wrongPlace 28 = .ok (.if_icmp .ge 155, 3) := by decide +kernel
theorem dX4_wrongPlace_31 : decode cX4_wrongPlace 31 = .ok (.iload 4, 2) := by decide +kernel
theorem dX4_wrongPlace_33 : decode cX4_wrongPlace 33 = .ok (.aload_n 3, 1) := by decide +kernel
theorem dX4_wrongPlace_34 : decode cX4_wrongPlace 34 = .ok (.getfield 49, 3) := by decide +kernel
theorem dX4_wrongPlace_37 : decode cX4_wrongPlace 37 = .ok (.if_icmp .ge 146, 3) := by decide +kernel
theorem dX4_wrongPlace_40 : decode cX4_wrongPlace 40 = .ok (.aload_n 3, 1) := by decide +kernel
theorem dX4_wrongPlace_41 : decode cX4_wrongPlace 41 = .ok (.getfield 52, 3) := by decide +kernel
theorem dX4_wrongPlace_44 : decode cX4_wrongPlace 44 = .ok (.iload 4, 2) := by decide +kernel
theorem dX4_wrongPlace_46 : decode cX4_wrongPlace 46 = .ok (.iaload, 1) := by decide +kernel
theorem dX4_wrongPlace_47 : decode cX4_wrongPlace 47 = .ok (.istore 6, 2) := by decide +kernel
theorem dX4_wrongPlace_49 : decode cX4_wrongPlace 49 = .ok (.iload 6, 2) := by decide +kernel
theorem dX4_wrongPlace_51 : decode cX4_wrongPlace 51 = .ok (.ifCond .lt 10, 3) := by decide +kernel
theorem dX4_wrongPlace_54 : decode cX4_wrongPlace 54 = .ok (.iload 6, 2) := by decide +kernel
theorem dX4_wrongPlace_56 : decode cX4_wrongPlace 56 = .ok (.bipush 64, 2) := by decide +kernel
theorem dX4_wrongPlace_58 : decode cX4_wrongPlace 58 = .ok (.if_icmp .lt 6, 3) := by decide +kernel
theorem dX4_wrongPlace_61 : decode cX4_wrongPlace 61 = .ok (.iload 4, 2) := by decide +kernel
theorem dX4_wrongPlace_63 : decode cX4_wrongPlace 63 = .ok (.ireturn, 1) := by decide +kernel
theorem dX4_wrongPlace_64 : decode cX4_wrongPlace 64 = .ok (.iload 6, 2) := by decide +kernel
theorem dX4_wrongPlace_66 : decode cX4_wrongPlace 66 = .ok (.bipush 16, 2) := by decide +kernel
theorem dX4_wrongPlace_68 : decode cX4_wrongPlace 68 = .ok (.idiv, 1) := by decide +kernel
theorem dX4_wrongPlace_69 : decode cX4_wrongPlace 69 = .ok (.istore 7, 2) := by decide +kernel
theorem dX4_wrongPlace_71 : decode cX4_wrongPlace 71 = .ok (.iload 6, 2) := by decide +kernel
theorem dX4_wrongPlace_73 : decode cX4_wrongPlace 73 = .ok (.bipush 16, 2) := by decide +kernel
theorem dX4_wrongPlace_75 : decode cX4_wrongPlace 75 = .ok (.irem, 1) := by decide +kernel
theorem dX4_wrongPlace_76 : decode cX4_wrongPlace 76 = .ok (.istore 8, 2) := by decide +kernel
theorem dX4_wrongPlace_78 : decode cX4_wrongPlace 78 = .ok (.aload_n 0, 1) := by decide +kernel
theorem dX4_wrongPlace_79 : decode cX4_wrongPlace 79 = .ok (.getfield 40, 3) := by decide +kernel
theorem dX4_wrongPlace_82 : decode cX4_wrongPlace 82 = .ok (.aload_n 0, 1) := by decide +kernel
theorem dX4_wrongPlace_83 : decode cX4_wrongPlace 83 = .ok (.getfield 43, 3) := by decide +kernel
theorem dX4_wrongPlace_86 : decode cX4_wrongPlace 86 = .ok (.ior, 1) := by decide +kernel
theorem dX4_wrongPlace_87 : decode cX4_wrongPlace 87 = .ok (.iconst 1, 1) := by decide +kernel
theorem dX4_wrongPlace_88 : decode cX4_wrongPlace 88 = .ok (.iload 8, 2) := by decide +kernel
theorem dX4_wrongPlace_90 : decode cX4_wrongPlace 90 = .ok (.ishl, 1) := by decide +kernel
theorem dX4_wrongPlace_91 : decode cX4_wrongPlace 91 = .ok (.iand, 1) := by decide +kernel
theorem dX4_wrongPlace_92 : decode cX4_wrongPlace 92 = .ok (.ifCond .eq 6, 3) := by decide +kernel
theorem dX4_wrongPlace_95 : decode cX4_wrongPlace 95 = .ok (.iload 4, 2) := by decide +kernel
theorem dX4_wrongPlace_97 : decode cX4_wrongPlace 97 = .ok (.ireturn, 1) := by decide +kernel
theorem dX4_wrongPlace_98 : decode cX4_wrongPlace 98 = .ok (.aload_n 1, 1) := by decide +kernel
theorem dX4_wrongPlace_99 : decode cX4_wrongPlace 99 = .ok (.iload_n 2, 1) := by decide +kernel
theorem dX4_wrongPlace_100 : decode cX4_wrongPlace 100 = .ok (.iload 8, 2) := by decide +kernel
theorem dX4_wrongPlace_102 : decode cX4_wrongPlace 102 = .ok (.iload 7, 2) := by decide +kernel
theorem dX4_wrongPlace_104 : decode cX4_wrongPlace 104 = .ok (.invokevirtual 55, 3) := by decide +kernel
theorem dX4_wrongPlace_107 : decode cX4_wrongPlace 107 = .ok (.istore 9, 2) := by decide +kernel
theorem dX4_wrongPlace_109 : decode cX4_wrongPlace 109 = .ok (.aload_n 3, 1) := by decide +kernel
theorem dX4_wrongPlace_110 : decode cX4_wrongPlace 110 = .ok (.iload 4, 2) := by decide +kernel
theorem dX4_wrongPlace_112 : decode cX4_wrongPlace 112 = .ok (.iload 7, 2) := by decide +kernel
theorem dX4_wrongPlace_114 : decode cX4_wrongPlace 114 = .ok (.aload_n 1, 1) := by decide +kernel
theorem dX4_wrongPlace_115 : decode cX4_wrongPlace 115 = .ok (.iload 9, 2) := by decide +kernel
theorem dX4_wrongPlace_117 : decode cX4_wrongPlace 117 = .ok (.iload 7, 2) := by decide +kernel
theorem dX4_wrongPlace_119 : decode cX4_wrongPlace 119 = .ok (.invokestatic 61, 3) := by decide +kernel
theorem dX4_wrongPlace_122 : decode cX4_wrongPlace 122 = .ok (.invokestatic 65, 3) := by decide +kernel
theorem dX4_wrongPlace_125 : decode cX4_wrongPlace 125 = .ok (.istore 10, 2) := by decide +kernel
theorem dX4_wrongPlace_127 : decode cX4_wrongPlace 127 = .ok (.iload 10, 2) := by decide +kernel
theorem dX4_wrongPlace_129 : decode cX4_wrongPlace 129 = .ok (.bipush (-9), 2) := by decide +kernel
theorem dX4_wrongPlace_131 : decode cX4_wrongPlace 131 = .ok (.if_icmp .eq 6, 3) := by decide +kernel
theorem dX4_wrongPlace_134 : decode cX4_wrongPlace 134 = .ok (.iload 10, 2) := by decide +kernel
theorem dX4_wrongPlace_136 : decode cX4_wrongPlace 136 = .ok (.ireturn, 1) := by decide +kernel
theorem dX4_wrongPlace_137 : decode cX4_wrongPlace 137 = .ok (.iload 4, 2) := by decide +kernel
theorem dX4_wrongPlace_139 : decode cX4_wrongPlace 139 = .ok (.aload_n 3, 1) := by decide +kernel
theorem dX4_wrongPlace_140 : decode cX4_wrongPlace 140 = .ok (.iload 4, 2) := by decide +kernel
theorem dX4_wrongPlace_142 : decode cX4_wrongPlace 142 = .ok (.iload 7, 2) := by decide +kernel
theorem dX4_wrongPlace_144 : decode cX4_wrongPlace 144 = .ok (.invokestatic 69, 3) := by decide +kernel
theorem dX4_wrongPlace_147 : decode cX4_wrongPlace 147 = .ok (.iadd, 1) := by decide +kernel
theorem dX4_wrongPlace_148 : decode cX4_wrongPlace 148 = .ok (.istore 11, 2) := by decide +kernel
theorem dX4_wrongPlace_150 : decode cX4_wrongPlace 150 = .ok (.aload_n 0, 1) := by decide +kernel
theorem dX4_wrongPlace_151 : decode cX4_wrongPlace 151 = .ok (.aload_n 3, 1) := by decide +kernel
theorem dX4_wrongPlace_152 : decode cX4_wrongPlace 152 = .ok (.iload 4, 2) := by decide +kernel
theorem dX4_wrongPlace_154 : decode cX4_wrongPlace 154 = .ok (.iload 11, 2) := by decide +kernel
theorem dX4_wrongPlace_156 : decode cX4_wrongPlace 156 = .ok (.iload 8, 2) := by decide +kernel
theorem dX4_wrongPlace_158 : decode cX4_wrongPlace 158 = .ok (.iload 9, 2) := by decide +kernel
theorem dX4_wrongPlace_160 : decode cX4_wrongPlace 160 = .ok (.bipush (-9), 2) := by decide +kernel
theorem dX4_wrongPlace_162 : decode cX4_wrongPlace 162 = .ok (.if_icmp .eq 7, 3) := by decide +kernel
theorem dX4_wrongPlace_165 : decode cX4_wrongPlace 165 = .ok (.iconst 1, 1) := by decide +kernel
theorem dX4_wrongPlace_166 : decode cX4_wrongPlace 166 = .ok (.goto 4, 3) := by decide +kernel
theorem dX4_wrongPlace_169 : decode cX4_wrongPlace 169 = .ok (.iconst 0, 1) := by decide +kernel
theorem dX4_wrongPlace_170 : decode cX4_wrongPlace 170 = .ok (.invokevirtual 73, 3) := by decide +kernel
theorem dX4_wrongPlace_173 : decode cX4_wrongPlace 173 = .ok (.iload 11, 2) := by decide +kernel
theorem dX4_wrongPlace_175 : decode cX4_wrongPlace 175 = .ok (.istore 4, 2) := by decide +kernel
theorem dX4_wrongPlace_177 : decode cX4_wrongPlace 177 = .ok (.iinc 5 1, 3) := by decide +kernel
theorem dX4_wrongPlace_180 : decode cX4_wrongPlace 180 = .ok (.goto (-156), 3) := by decide +kernel
theorem dX4_wrongPlace_183 : decode cX4_wrongPlace 183 = .ok (.aload_n 0, 1) := by decide +kernel
theorem dX4_wrongPlace_184 : decode cX4_wrongPlace 184 = .ok (.aload_n 1, 1) := by decide +kernel
theorem dX4_wrongPlace_185 : decode cX4_wrongPlace 185 = .ok (.iload_n 2, 1) := by decide +kernel
theorem dX4_wrongPlace_186 : decode cX4_wrongPlace 186 = .ok (.invokevirtual 77, 3) := by decide +kernel
theorem dX4_wrongPlace_189 : decode cX4_wrongPlace 189 = .ok (.ifCond .eq 10, 3) := by decide +kernel
theorem dX4_wrongPlace_192 : decode cX4_wrongPlace 192 = .ok (.aload_n 3, 1) := by decide +kernel
theorem dX4_wrongPlace_193 : decode cX4_wrongPlace 193 = .ok (.getfield 49, 3) := by decide +kernel
theorem dX4_wrongPlace_196 : decode cX4_wrongPlace 196 = .ok (.goto 5, 3) := by decide +kernel
theorem dX4_wrongPlace_199 : decode cX4_wrongPlace 199 = .ok (.bipush (-9), 2) := by decide +kernel
theorem dX4_wrongPlace_201 : decode cX4_wrongPlace 201 = .ok (.ireturn, 1) := by decide +kernel
theorem dX4_choicesOf_0 : decode cX4_choicesOf 0 = .ok (.iload_n 2, 1) := by decide +kernel
theorem dX4_choicesOf_1 : decode cX4_choicesOf 1 = .ok (.iconst 2, 1) := by decide +kernel
theorem dX4_choicesOf_2 : decode cX4_choicesOf 2 = .ok (.if_icmp .ne 6, 3) := by decide +kernel
theorem dX4_choicesOf_5 : decode cX4_choicesOf 5 = .ok (.bipush 10, 2) := by decide +kernel
theorem dX4_choicesOf_7 : decode cX4_choicesOf 7 = .ok (.ireturn, 1) := by decide +kernel
theorem dX4_choicesOf_8 : decode cX4_choicesOf 8 = .ok (.iload_n 2, 1) := by decide +kernel
theorem dX4_choicesOf_9 : decode cX4_choicesOf 9 = .ok (.iconst 3, 1) := by decide +kernel
theorem dX4_choicesOf_10 : decode cX4_choicesOf 10 = .ok (.if_icmp .ne 18, 3) := by decide +kernel
theorem dX4_choicesOf_13 : decode cX4_choicesOf 13 = .ok (.iload_n 1, 1) := by decide +kernel
theorem dX4_choicesOf_14 : decode cX4_choicesOf 14 = .ok (.bipush (-9), 2) := by decide +kernel
theorem dX4_choicesOf_16 : decode cX4_choicesOf 16 = .ok (.if_icmp .eq 12, 3) := by decide +kernel
theorem dX4_choicesOf_19 : decode cX4_choicesOf 19 = .ok (.aload_n 0, 1) := by decide +kernel
theorem dX4_choicesOf_20 : decode cX4_choicesOf 20 = .ok (.getfield 81, 3) := by decide +kernel
theorem dX4_choicesOf_23 : decode cX4_choicesOf 23 = .ok (.iload_n 1, 1) := by decide +kernel
theorem dX4_choicesOf_24 : decode cX4_choicesOf 24 = .ok (.iaload, 1) := by decide +kernel
theorem dX4_choicesOf_25 : decode cX4_choicesOf 25 = .ok (.goto 6, 3) := by decide +kernel
theorem dX4_choicesOf_28 : decode cX4_choicesOf 28 = .ok (.sipush 256, 3) := by decide +kernel
theorem dX4_choicesOf_31 : decode cX4_choicesOf 31 = .ok (.ireturn, 1) := by decide +kernel
theorem dX4_wrongInField_0 : decode cX4_wrongInField 0 = .ok (.aload_n 0, 1) := by decide +kernel
theorem dX4_wrongInField_1 : decode cX4_wrongInField 1 = .ok (.iload_n 1, 1) := by decide +kernel
theorem dX4_wrongInField_2 : decode cX4_wrongInField 2 = .ok (.iconst 1, 1) := by decide +kernel
theorem dX4_wrongInField_3 : decode cX4_wrongInField 3 = .ok (.iadd, 1) := by decide +kernel
theorem dX4_wrongInField_4 : decode cX4_wrongInField 4 = .ok (.invokevirtual 84, 3) := by decide +kernel
theorem dX4_wrongInField_7 : decode cX4_wrongInField 7 = .ok (.iload_n 3, 1) := by decide +kernel
theorem dX4_wrongInField_8 : decode cX4_wrongInField 8 = .ok (.if_icmp .lt 7, 3) := by decide +kernel
theorem dX4_wrongInField_11 : decode cX4_wrongInField 11 = .ok (.iload_n 1, 1) := by decide +kernel
theorem dX4_wrongInField_12 : decode cX4_wrongInField 12 = .ok (.iconst 1, 1) := by decide +kernel
theorem dX4_wrongInField_13 : decode cX4_wrongInField 13 = .ok (.iadd, 1) := by decide +kernel
theorem dX4_wrongInField_14 : decode cX4_wrongInField 14 = .ok (.ireturn, 1) := by decide +kernel
theorem dX4_wrongInField_15 : decode cX4_wrongInField 15 = .ok (.iload_n 1, 1) := by decide +kernel
theorem dX4_wrongInField_16 : decode cX4_wrongInField 16 = .ok (.aload_n 0, 1) := by decide +kernel
theorem dX4_wrongInField_17 : decode cX4_wrongInField 17 = .ok (.iload_n 1, 1) := by decide +kernel
theorem dX4_wrongInField_18 : decode cX4_wrongInField 18 = .ok (.iload_n 2, 1) := by decide +kernel
theorem dX4_wrongInField_19 : decode cX4_wrongInField 19 = .ok (.invokestatic 69, 3) := by decide +kernel
theorem dX4_wrongInField_22 : decode cX4_wrongInField 22 = .ok (.iadd, 1) := by decide +kernel
theorem dX4_wrongInField_23 : decode cX4_wrongInField 23 = .ok (.aload_n 0, 1) := by decide +kernel
theorem dX4_wrongInField_24 : decode cX4_wrongInField 24 = .ok (.getfield 49, 3) := by decide +kernel
theorem dX4_wrongInField_27 : decode cX4_wrongInField 27 = .ok (.if_icmp .le 10, 3) := by decide +kernel
theorem dX4_wrongInField_30 : decode cX4_wrongInField 30 = .ok (.aload_n 0, 1) := by decide +kernel
theorem dX4_wrongInField_31 : decode cX4_wrongInField 31 = .ok (.getfield 49, 3) := by decide +kernel
theorem dX4_wrongInField_34 : decode cX4_wrongInField 34 = .ok (.goto 5, 3) := by decide +kernel
theorem dX4_wrongInField_37 : decode cX4_wrongInField 37 = .ok (.bipush (-9), 2) := by decide +kernel
theorem dX4_wrongInField_39 : decode cX4_wrongInField 39 = .ok (.ireturn, 1) := by decide +kernel
theorem dX4_widthOf_0 : decode cX4_widthOf 0 = .ok (.iload_n 2, 1) := by decide +kernel
theorem dX4_widthOf_1 : decode cX4_widthOf 1 = .ok (.iconst 1, 1) := by decide +kernel
theorem dX4_widthOf_2 : decode cX4_widthOf 2 = .ok (.if_icmp .ne 5, 3) := by decide +kernel
theorem dX4_widthOf_5 : decode cX4_widthOf 5 = .ok (.iconst 3, 1) := by decide +kernel
theorem dX4_widthOf_6 : decode cX4_widthOf 6 = .ok (.ireturn, 1) := by decide +kernel
theorem dX4_widthOf_7 : decode cX4_widthOf 7 = .ok (.iload_n 2, 1) := by decide +kernel
theorem dX4_widthOf_8 : decode cX4_widthOf 8 = .ok (.iconst 2, 1) := by decide +kernel
theorem dX4_widthOf_9 : decode cX4_widthOf 9 = .ok (.if_icmp .ne 15, 3) := by decide +kernel
theorem dX4_widthOf_12 : decode cX4_widthOf 12 = .ok (.iconst 2, 1) := by decide +kernel
theorem dX4_widthOf_13 : decode cX4_widthOf 13 = .ok (.aload_n 0, 1) := by decide +kernel
theorem dX4_widthOf_14 : decode cX4_widthOf 14 = .ok (.iload_n 1, 1) := by decide +kernel
theorem dX4_widthOf_15 : decode cX4_widthOf 15 = .ok (.iconst 1, 1) := by decide +kernel
theorem dX4_widthOf_16 : decode cX4_widthOf 16 = .ok (.iadd, 1) := by decide +kernel
theorem dX4_widthOf_17 : decode cX4_widthOf 17 = .ok (.invokevirtual 84, 3) := by decide +kernel
theorem dX4_widthOf_20 : decode cX4_widthOf 20 = .ok (.iadd, 1) := by decide +kernel
theorem dX4_widthOf_21 : decode cX4_widthOf 21 = .ok (.goto 4, 3) := by decide +kernel
theorem dX4_widthOf_24 : decode cX4_widthOf 24 = .ok (.iconst 2, 1) := by decide +kernel
theorem dX4_widthOf_25 : decode cX4_widthOf 25 = .ok (.ireturn, 1) := by decide +kernel
theorem dX4_take_0 : decode cX4_take 0 = .ok (.iload 5, 2) := by decide +kernel
theorem dX4_take_2 : decode cX4_take 2 = .ok (.ifCond .eq 27, 3) := by decide +kernel
theorem dX4_take_5 : decode cX4_take 5 = .ok (.aload_n 0, 1) := by decide +kernel
theorem dX4_take_6 : decode cX4_take 6 = .ok (.dup, 1) := by decide +kernel
theorem dX4_take_7 : decode cX4_take 7 = .ok (.getfield 40, 3) := by decide +kernel
theorem dX4_take_10 : decode cX4_take 10 = .ok (.iconst 1, 1) := by decide +kernel
theorem dX4_take_11 : decode cX4_take 11 = .ok (.iload 4, 2) := by decide +kernel
theorem dX4_take_13 : decode cX4_take 13 = .ok (.ishl, 1) := by decide +kernel
theorem dX4_take_14 : decode cX4_take 14 = .ok (.ior, 1) := by decide +kernel
theorem dX4_take_15 : decode cX4_take 15 = .ok (.putfield 40, 3) := by decide +kernel
theorem dX4_take_18 : decode cX4_take 18 = .ok (.aload_n 0, 1) := by decide +kernel
theorem dX4_take_19 : decode cX4_take 19 = .ok (.getfield 33, 3) := by decide +kernel
theorem dX4_take_22 : decode cX4_take 22 = .ok (.iload 4, 2) := by decide +kernel
theorem dX4_take_24 : decode cX4_take 24 = .ok (.iload_n 2, 1) := by decide +kernel
theorem dX4_take_25 : decode cX4_take 25 = .ok (.iconst 1, 1) := by decide +kernel
theorem dX4_take_26 : decode cX4_take 26 = .ok (.iadd, 1) := by decide +kernel
theorem dX4_take_27 : decode cX4_take 27 = .ok (.iastore, 1) := by decide +kernel
theorem dX4_take_28 : decode cX4_take 28 = .ok (.return_, 1) := by decide +kernel
theorem dX4_take_29 : decode cX4_take 29 = .ok (.aload_n 0, 1) := by decide +kernel
theorem dX4_take_30 : decode cX4_take 30 = .ok (.dup, 1) := by decide +kernel
theorem dX4_take_31 : decode cX4_take 31 = .ok (.getfield 43, 3) := by decide +kernel
theorem dX4_take_34 : decode cX4_take 34 = .ok (.iconst 1, 1) := by decide +kernel
theorem dX4_take_35 : decode cX4_take 35 = .ok (.iload 4, 2) := by decide +kernel
theorem dX4_take_37 : decode cX4_take 37 = .ok (.ishl, 1) := by decide +kernel
theorem dX4_take_38 : decode cX4_take 38 = .ok (.ior, 1) := by decide +kernel
theorem dX4_take_39 : decode cX4_take 39 = .ok (.putfield 43, 3) := by decide +kernel
theorem dX4_take_42 : decode cX4_take 42 = .ok (.iload_n 2, 1) := by decide +kernel
theorem dX4_take_43 : decode cX4_take 43 = .ok (.istore 6, 2) := by decide +kernel
theorem dX4_take_45 : decode cX4_take 45 = .ok (.iload 6, 2) := by decide +kernel
theorem dX4_take_47 : decode cX4_take 47 = .ok (.iload_n 3, 1) := by decide +kernel
theorem dX4_take_48 : decode cX4_take 48 = .ok (.if_icmp .ge 23, 3) := by decide +kernel
theorem dX4_take_51 : decode cX4_take 51 = .ok (.aload_n 0, 1) := by decide +kernel
theorem dX4_take_52 : decode cX4_take 52 = .ok (.getfield 37, 3) := by decide +kernel
theorem dX4_take_55 : decode cX4_take 55 = .ok (.aload_n 1, 1) := by decide +kernel
theorem dX4_take_56 : decode cX4_take 56 = .ok (.getfield 52, 3) := by decide +kernel
theorem dX4_take_59 : decode cX4_take 59 = .ok (.iload 6, 2) := by decide +kernel
theorem dX4_take_61 : decode cX4_take 61 = .ok (.iaload, 1) := by decide +kernel
theorem dX4_take_62 : decode cX4_take 62 = .ok (.invokevirtual 88, 3) := by decide +kernel
theorem dX4_take_65 : decode cX4_take 65 = .ok (.iinc 6 1, 3) := by decide +kernel
theorem dX4_take_68 : decode cX4_take 68 = .ok (.goto (-23), 3) := by decide +kernel
theorem dX4_take_71 : decode cX4_take 71 = .ok (.return_, 1) := by decide +kernel
theorem dX4_lacksNeeded_0 : decode cX4_lacksNeeded 0 = .ok (.iconst 0, 1) := by decide +kernel
theorem dX4_lacksNeeded_1 : decode cX4_lacksNeeded 1 = .ok (.istore_n 3, 1) := by decide +kernel
theorem dX4_lacksNeeded_2 : decode cX4_lacksNeeded 2 = .ok (.iload_n 3, 1) := by decide +kernel
theorem dX4_lacksNeeded_3 : decode cX4_lacksNeeded 3 = .ok (.aload_n 1, 1) := by decide +kernel
theorem dX4_lacksNeeded_4 : decode cX4_lacksNeeded 4 = .ok (.getfield 91, 3) := by decide +kernel
theorem dX4_lacksNeeded_7 : decode cX4_lacksNeeded 7 = .ok (.if_icmp .ge 44, 3) := by decide +kernel
theorem dX4_lacksNeeded_10 : decode cX4_lacksNeeded 10 = .ok (.aload_n 1, 1) := by decide +kernel
theorem dX4_lacksNeeded_11 : decode cX4_lacksNeeded 11 = .ok (.iload_n 2, 1) := by decide +kernel
theorem dX4_lacksNeeded_12 : decode cX4_lacksNeeded 12 = .ok (.iload_n 3, 1) := by decide +kernel
theorem dX4_lacksNeeded_13 : decode cX4_lacksNeeded 13 = .ok (.invokevirtual 94, 3) := by decide +kernel
theorem dX4_lacksNeeded_16 : decode cX4_lacksNeeded 16 = .ok (.ifCond .eq 29, 3) := by decide +kernel
theorem dX4_lacksNeeded_19 : decode cX4_lacksNeeded 19 = .ok (.aload_n 1, 1) := by decide +kernel
theorem dX4_lacksNeeded_20 : decode cX4_lacksNeeded 20 = .ok (.iload_n 3, 1) := by decide +kernel
theorem dX4_lacksNeeded_21 : decode cX4_lacksNeeded 21 = .ok (.invokevirtual 98, 3) := by decide +kernel
theorem dX4_lacksNeeded_24 : decode cX4_lacksNeeded 24 = .ok (.ifCond .eq 21, 3) := by decide +kernel
theorem dX4_lacksNeeded_27 : decode cX4_lacksNeeded 27 = .ok (.aload_n 0, 1) := by decide +kernel
theorem dX4_lacksNeeded_28 : decode cX4_lacksNeeded 28 = .ok (.getfield 40, 3) := by decide +kernel
theorem dX4_lacksNeeded_31 : decode cX4_lacksNeeded 31 = .ok (.iconst 1, 1) := by decide +kernel
theorem dX4_lacksNeeded_32 : decode cX4_lacksNeeded 32 = .ok (.aload_n 1, 1) := by decide +kernel
theorem dX4_lacksNeeded_33 : decode cX4_lacksNeeded 33 = .ok (.getfield 102, 3) := by decide +kernel
theorem dX4_lacksNeeded_36 : decode cX4_lacksNeeded 36 = .ok (.iload_n 3, 1) := by decide +kernel
theorem dX4_lacksNeeded_37 : decode cX4_lacksNeeded 37 = .ok (.iaload, 1) := by decide +kernel
theorem dX4_lacksNeeded_38 : decode cX4_lacksNeeded 38 = .ok (.ishl, 1) := by decide +kernel
theorem dX4_lacksNeeded_39 : decode cX4_lacksNeeded 39 = .ok (.iand, 1) := by decide +kernel
theorem dX4_lacksNeeded_40 : decode cX4_lacksNeeded 40 = .ok (.ifCond .ne 5, 3) := by decide +kernel
theorem dX4_lacksNeeded_43 : decode cX4_lacksNeeded 43 = .ok (.iconst 1, 1) := by decide +kernel
theorem dX4_lacksNeeded_44 : decode cX4_lacksNeeded 44 = .ok (.ireturn, 1) := by decide +kernel
theorem dX4_lacksNeeded_45 : decode cX4_lacksNeeded 45 = .ok (.iinc 3 1, 3) := by decide +kernel
theorem dX4_lacksNeeded_48 : decode cX4_lacksNeeded 48 = .ok (.goto (-46), 3) := by decide +kernel
theorem dX4_lacksNeeded_51 : decode cX4_lacksNeeded 51 = .ok (.iconst 0, 1) := by decide +kernel
theorem dX4_lacksNeeded_52 : decode cX4_lacksNeeded 52 = .ok (.ireturn, 1) := by decide +kernel
theorem dX4_decode_0 : decode cX4_decode 0 = .ok (.aload_n 0, 1) := by decide +kernel
theorem dX4_decode_1 : decode cX4_decode 1 = .ok (.getfield 14, 3) := by decide +kernel
theorem dX4_decode_4 : decode cX4_decode 4 = .ok (.iconst 0, 1) := by decide +kernel
theorem dX4_decode_5 : decode cX4_decode 5 = .ok (.putfield 49, 3) := by decide +kernel
theorem dX4_decode_8 : decode cX4_decode 8 = .ok (.aload_n 0, 1) := by decide +kernel
theorem dX4_decode_9 : decode cX4_decode 9 = .ok (.iconst 0, 1) := by decide +kernel
theorem dX4_decode_10 : decode cX4_decode 10 = .ok (.putfield 46, 3) := by decide +kernel
theorem dX4_decode_13 : decode cX4_decode 13 = .ok (.iconst 0, 1) := by decide +kernel
theorem dX4_decode_14 : decode cX4_decode 14 = .ok (.istore 4, 2) := by decide +kernel
theorem dX4_decode_16 : decode cX4_decode 16 = .ok (.iload 4, 2) := by decide +kernel
theorem dX4_decode_18 : decode cX4_decode 18 = .ok (.aload_n 1, 1) := by decide +kernel
theorem dX4_decode_19 : decode cX4_decode 19 = .ok (.getfield 91, 3) := by decide +kernel
theorem dX4_decode_22 : decode cX4_decode 22 = .ok (.if_icmp .ge 95, 3) := by decide +kernel
theorem dX4_decode_25 : decode cX4_decode 25 = .ok (.aload_n 1, 1) := by decide +kernel
theorem dX4_decode_26 : decode cX4_decode 26 = .ok (.iload_n 2, 1) := by decide +kernel
theorem dX4_decode_27 : decode cX4_decode 27 = .ok (.iload 4, 2) := by decide +kernel
theorem dX4_decode_29 : decode cX4_decode 29 = .ok (.invokevirtual 94, 3) := by decide +kernel
theorem dX4_decode_32 : decode cX4_decode 32 = .ok (.ifCond .eq 79, 3) := by decide +kernel
theorem dX4_decode_35 : decode cX4_decode 35 = .ok (.aload_n 0, 1) := by decide +kernel
theorem dX4_decode_36 : decode cX4_decode 36 = .ok (.getfield 40, 3) := by decide +kernel
theorem dX4_decode_39 : decode cX4_decode 39 = .ok (.iconst 1, 1) := by decide +kernel
theorem dX4_decode_40 : decode cX4_decode 40 = .ok (.aload_n 1, 1) := by decide +kernel
theorem dX4_decode_41 : decode cX4_decode 41 = .ok (.getfield 102, 3) := by decide +kernel
theorem dX4_decode_44 : decode cX4_decode 44 = .ok (.iload 4, 2) := by decide +kernel
theorem dX4_decode_46 : decode cX4_decode 46 = .ok (.iaload, 1) := by decide +kernel
theorem dX4_decode_47 : decode cX4_decode 47 = .ok (.ishl, 1) := by decide +kernel
theorem dX4_decode_48 : decode cX4_decode 48 = .ok (.iand, 1) := by decide +kernel
theorem dX4_decode_49 : decode cX4_decode 49 = .ok (.ifCond .eq 30, 3) := by decide +kernel
theorem dX4_decode_52 : decode cX4_decode 52 = .ok (.aload_n 0, 1) := by decide +kernel
theorem dX4_decode_53 : decode cX4_decode 53 = .ok (.aload_n 1, 1) := by decide +kernel
theorem dX4_decode_54 : decode cX4_decode 54 = .ok (.getfield 105, 3) := by decide +kernel
theorem dX4_decode_57 : decode cX4_decode 57 = .ok (.iload 4, 2) := by decide +kernel
theorem dX4_decode_59 : decode cX4_decode 59 = .ok (.iaload, 1) := by decide +kernel
theorem dX4_decode_60 : decode cX4_decode 60 = .ok (.aload_n 0, 1) := by decide +kernel
theorem dX4_decode_61 : decode cX4_decode 61 = .ok (.getfield 33, 3) := by decide +kernel
theorem dX4_decode_64 : decode cX4_decode 64 = .ok (.aload_n 1, 1) := by decide +kernel
theorem dX4_decode_65 : decode cX4_decode 65 = .ok (.getfield 102, 3) := by decide +kernel
theorem dX4_decode_68 : decode cX4_decode 68 = .ok (.iload 4, 2) := by decide +kernel
theorem dX4_decode_70 : decode cX4_decode 70 = .ok (.iaload, 1) := by decide +kernel
theorem dX4_decode_71 : decode cX4_decode 71 = .ok (.iaload, 1) := by decide +kernel
theorem dX4_decode_72 : decode cX4_decode 72 = .ok (.aload_n 3, 1) := by decide +kernel
theorem dX4_decode_73 : decode cX4_decode 73 = .ok (.invokevirtual 108, 3) := by decide +kernel
theorem dX4_decode_76 : decode cX4_decode 76 = .ok (.goto 35, 3) := by decide +kernel
theorem dX4_decode_79 : decode cX4_decode 79 = .ok (.aload_n 0, 1) := by decide +kernel
theorem dX4_decode_80 : decode cX4_decode 80 = .ok (.dup, 1) := by decide +kernel
theorem dX4_decode_81 : decode cX4_decode 81 = .ok (.getfield 46, 3) := by decide +kernel
theorem dX4_decode_84 : decode cX4_decode 84 = .ok (.iconst 1, 1) := by decide +kernel
theorem dX4_decode_85 : decode cX4_decode 85 = .ok (.aload_n 1, 1) := by decide +kernel
theorem dX4_decode_86 : decode cX4_decode 86 = .ok (.getfield 102, 3) := by decide +kernel
theorem dX4_decode_89 : decode cX4_decode 89 = .ok (.iload 4, 2) := by decide +kernel
theorem dX4_decode_91 : decode cX4_decode 91 = .ok (.iaload, 1) := by decide +kernel
theorem dX4_decode_92 : decode cX4_decode 92 = .ok (.ishl, 1) := by decide +kernel
theorem dX4_decode_93 : decode cX4_decode 93 = .ok (.ior, 1) := by decide +kernel
theorem dX4_decode_94 : decode cX4_decode 94 = .ok (.putfield 46, 3) := by decide +kernel
theorem dX4_decode_97 : decode cX4_decode 97 = .ok (.aload_n 0, 1) := by decide +kernel
theorem dX4_decode_98 : decode cX4_decode 98 = .ok (.getfield 14, 3) := by decide +kernel
theorem dX4_decode_101 : decode cX4_decode 101 = .ok (.aload_n 1, 1) := by decide +kernel
theorem dX4_decode_102 : decode cX4_decode 102 = .ok (.getfield 112, 3) := by decide +kernel
theorem dX4_decode_105 : decode cX4_decode 105 = .ok (.iload 4, 2) := by decide +kernel
theorem dX4_decode_107 : decode cX4_decode 107 = .ok (.iaload, 1) := by decide +kernel
theorem dX4_decode_108 : decode cX4_decode 108 = .ok (.invokevirtual 88, 3) := by decide +kernel
theorem dX4_decode_111 : decode cX4_decode 111 = .ok (.iinc 4 1, 3) := by decide +kernel
theorem dX4_decode_114 : decode cX4_decode 114 = .ok (.goto (-98), 3) := by decide +kernel
theorem dX4_decode_117 : decode cX4_decode 117 = .ok (.return_, 1) := by decide +kernel
theorem dX4_decodeField_0 : decode cX4_decodeField 0 = .ok (.aload_n 3, 1) := by decide +kernel
theorem dX4_decodeField_1 : decode cX4_decodeField 1 = .ok (.iload_n 2, 1) := by decide +kernel
theorem dX4_decodeField_2 : decode cX4_decodeField 2 = .ok (.invokevirtual 84, 3) := by decide +kernel
theorem dX4_decodeField_5 : decode cX4_decodeField 5 = .ok (.istore 4, 2) := by decide +kernel
theorem dX4_decodeField_7 : decode cX4_decodeField 7 = .ok (.aload_n 0, 1) := by decide +kernel
theorem dX4_decodeField_8 : decode cX4_decodeField 8 = .ok (.getfield 14, 3) := by decide +kernel
theorem dX4_decodeField_11 : decode cX4_decodeField 11 = .ok (.iload_n 1, 1) := by decide +kernel
theorem dX4_decodeField_12 : decode cX4_decodeField 12 = .ok (.iconst 1, 1) := by decide +kernel
theorem dX4_decodeField_13 : decode cX4_decodeField 13 = .ok (.if_icmp .ne 20, 3) := by decide +kernel
theorem dX4_decodeField_16 : decode cX4_decodeField 16 = .ok (.iload 4, 2) := by decide +kernel
theorem dX4_decodeField_18 : decode cX4_decodeField 18 = .ok (.sipush 256, 3) := by decide +kernel
theorem dX4_decodeField_21 : decode cX4_decodeField 21 = .ok (.imul, 1) := by decide +kernel
theorem dX4_decodeField_22 : decode cX4_decodeField 22 = .ok (.aload_n 3, 1) := by decide +kernel
theorem dX4_decodeField_23 : decode cX4_decodeField 23 = .ok (.iload_n 2, 1) := by decide +kernel
theorem dX4_decodeField_24 : decode cX4_decodeField 24 = .ok (.iconst 1, 1) := by decide +kernel
theorem dX4_decodeField_25 : decode cX4_decodeField 25 = .ok (.iadd, 1) := by decide +kernel
theorem dX4_decodeField_26 : decode cX4_decodeField 26 = .ok (.invokevirtual 84, 3) := by decide +kernel
theorem dX4_decodeField_29 : decode cX4_decodeField 29 = .ok (.iadd, 1) := by decide +kernel
theorem dX4_decodeField_30 : decode cX4_decodeField 30 = .ok (.goto 5, 3) := by decide +kernel
theorem dX4_decodeField_33 : decode cX4_decodeField 33 = .ok (.iload 4, 2) := by decide +kernel
theorem dX4_decodeField_35 : decode cX4_decodeField 35 = .ok (.invokevirtual 88, 3) := by decide +kernel
theorem dX4_decodeField_38 : decode cX4_decodeField 38 = .ok (.iload_n 1, 1) := by decide +kernel
theorem dX4_decodeField_39 : decode cX4_decodeField 39 = .ok (.iconst 2, 1) := by decide +kernel
theorem dX4_decodeField_40 : decode cX4_decodeField 40 = .ok (.if_icmp .ne 8, 3) := by decide +kernel
theorem dX4_decodeField_43 : decode cX4_decodeField 43 = .ok (.iload 4, 2) := by decide +kernel
theorem dX4_decodeField_45 : decode cX4_decodeField 45 = .ok (.goto 4, 3) := by decide +kernel
theorem dX4_decodeField_48 : decode cX4_decodeField 48 = .ok (.iconst 0, 1) := by decide +kernel
theorem dX4_decodeField_49 : decode cX4_decodeField 49 = .ok (.istore 5, 2) := by decide +kernel
theorem dX4_decodeField_51 : decode cX4_decodeField 51 = .ok (.iconst 1, 1) := by decide +kernel
theorem dX4_decodeField_52 : decode cX4_decodeField 52 = .ok (.istore 6, 2) := by decide +kernel
theorem dX4_decodeField_54 : decode cX4_decodeField 54 = .ok (.iload 6, 2) := by decide +kernel
theorem dX4_decodeField_56 : decode cX4_decodeField 56 = .ok (.iload 5, 2) := by decide +kernel
theorem dX4_decodeField_58 : decode cX4_decodeField 58 = .ok (.if_icmp .gt 24, 3) := by decide +kernel
theorem dX4_decodeField_61 : decode cX4_decodeField 61 = .ok (.aload_n 0, 1) := by decide +kernel
theorem dX4_decodeField_62 : decode cX4_decodeField 62 = .ok (.getfield 14, 3) := by decide +kernel
theorem dX4_decodeField_65 : decode cX4_decodeField 65 = .ok (.aload_n 3, 1) := by decide +kernel
theorem dX4_decodeField_66 : decode cX4_decodeField 66 = .ok (.iload_n 2, 1) := by decide +kernel
theorem dX4_decodeField_67 : decode cX4_decodeField 67 = .ok (.iload 6, 2) := by decide +kernel
theorem dX4_decodeField_69 : decode cX4_decodeField 69 = .ok (.iadd, 1) := by decide +kernel
theorem dX4_decodeField_70 : decode cX4_decodeField 70 = .ok (.invokevirtual 84, 3) := by decide +kernel
theorem dX4_decodeField_73 : decode cX4_decodeField 73 = .ok (.invokevirtual 88, 3) := by decide +kernel
theorem dX4_decodeField_76 : decode cX4_decodeField 76 = .ok (.iinc 6 1, 3) := by decide +kernel
theorem dX4_decodeField_79 : decode cX4_decodeField 79 = .ok (.goto (-25), 3) := by decide +kernel
theorem dX4_decodeField_82 : decode cX4_decodeField 82 = .ok (.return_, 1) := by decide +kernel
theorem dX4_keep_0 : decode cX4_keep 0 = .ok (.aload_n 0, 1) := by decide +kernel
theorem dX4_keep_1 : decode cX4_keep 1 = .ok (.aload_n 0, 1) := by decide +kernel
theorem dX4_keep_2 : decode cX4_keep 2 = .ok (.getfield 40, 3) := by decide +kernel
theorem dX4_keep_5 : decode cX4_keep 5 = .ok (.putfield 23, 3) := by decide +kernel
theorem dX4_keep_8 : decode cX4_keep 8 = .ok (.aload_n 0, 1) := by decide +kernel
theorem dX4_keep_9 : decode cX4_keep 9 = .ok (.aload_n 0, 1) := by decide +kernel
theorem dX4_keep_10 : decode cX4_keep 10 = .ok (.getfield 43, 3) := by decide +kernel
theorem dX4_keep_13 : decode cX4_keep 13 = .ok (.putfield 27, 3) := by decide +kernel
theorem dX4_keep_16 : decode cX4_keep 16 = .ok (.aload_n 0, 1) := by decide +kernel
theorem dX4_keep_17 : decode cX4_keep 17 = .ok (.aload_n 0, 1) := by decide +kernel
theorem dX4_keep_18 : decode cX4_keep 18 = .ok (.getfield 46, 3) := by decide +kernel
theorem dX4_keep_21 : decode cX4_keep 21 = .ok (.putfield 30, 3) := by decide +kernel
theorem dX4_keep_24 : decode cX4_keep 24 = .ok (.aload_n 0, 1) := by decide +kernel
theorem dX4_keep_25 : decode cX4_keep 25 = .ok (.getfield 20, 3) := by decide +kernel
theorem dX4_keep_28 : decode cX4_keep 28 = .ok (.aload_n 0, 1) := by decide +kernel
theorem dX4_keep_29 : decode cX4_keep 29 = .ok (.getfield 37, 3) := by decide +kernel
theorem dX4_keep_32 : decode cX4_keep 32 = .ok (.invokevirtual 115, 3) := by decide +kernel
theorem dX4_keep_35 : decode cX4_keep 35 = .ok (.return_, 1) := by decide +kernel
theorem dX5_init_0 : decode cX5_init 0 = .ok (.aload_n 0, 1) := by decide +kernel
theorem dX5_init_1 : decode cX5_init 1 = .ok (.invokespecial 3, 3) := by decide +kernel
theorem dX5_init_4 : decode cX5_init 4 = .ok (.aload_n 0, 1) := by decide +kernel
theorem dX5_init_5 : decode cX5_init 5 = .ok (.bipush 64, 2) := by decide +kernel
theorem dX5_init_7 : decode cX5_init 7 = .ok (.newarray .boolean, 2) := by decide +kernel
theorem dX5_init_9 : decode cX5_init 9 = .ok (.putfield 11, 3) := by decide +kernel
theorem dX5_init_12 : decode cX5_init 12 = .ok (.aload_n 0, 1) := by decide +kernel
theorem dX5_init_13 : decode cX5_init 13 = .ok (.bipush 64, 2) := by decide +kernel
theorem dX5_init_15 : decode cX5_init 15 = .ok (.newarray .boolean, 2) := by decide +kernel
theorem dX5_init_17 : decode cX5_init 17 = .ok (.putfield 15, 3) := by decide +kernel
theorem dX5_init_20 : decode cX5_init 20 = .ok (.aload_n 0, 1) := by decide +kernel
theorem dX5_init_21 : decode cX5_init 21 = .ok (.iconst 0, 1) := by decide +kernel
theorem dX5_init_22 : decode cX5_init 22 = .ok (.putfield 18, 3) := by decide +kernel
theorem dX5_init_25 : decode cX5_init 25 = .ok (.aload_n 0, 1) := by decide +kernel
theorem dX5_init_26 : decode cX5_init 26 = .ok (.iconst 0, 1) := by decide +kernel
theorem dX5_init_27 : decode cX5_init 27 = .ok (.putfield 22, 3) := by decide +kernel
theorem dX5_init_30 : decode cX5_init 30 = .ok (.aload_n 0, 1) := by decide +kernel
theorem dX5_init_31 : decode cX5_init 31 = .ok (.iconst 0, 1) := by decide +kernel
theorem dX5_init_32 : decode cX5_init 32 = .ok (.putfield 25, 3) := by decide +kernel
theorem dX5_init_35 : decode cX5_init 35 = .ok (.aload_n 0, 1) := by decide +kernel
theorem dX5_init_36 : decode cX5_init 36 = .ok (.bipush 6, 2) := by decide +kernel
theorem dX5_init_38 : decode cX5_init 38 = .ok (.newarray .int, 2) := by decide +kernel
theorem dX5_init_40 : decode cX5_init 40 = .ok (.putfield 28, 3) := by decide +kernel
theorem dX5_init_43 : decode cX5_init 43 = .ok (.return_, 1) := by decide +kernel
theorem dX5_survey_0 : decode cX5_survey 0 = .ok (.aload_n 0, 1) := by decide +kernel
theorem dX5_survey_1 : decode cX5_survey 1 = .ok (.iconst 0, 1) := by decide +kernel
theorem dX5_survey_2 : decode cX5_survey 2 = .ok (.putfield 18, 3) := by decide +kernel
theorem dX5_survey_5 : decode cX5_survey 5 = .ok (.iconst 0, 1) := by decide +kernel
theorem dX5_survey_6 : decode cX5_survey 6 = .ok (.istore_n 3, 1) := by decide +kernel
theorem dX5_survey_7 : decode cX5_survey 7 = .ok (.iload_n 3, 1) := by decide +kernel
theorem dX5_survey_8 : decode cX5_survey 8 = .ok (.bipush 6, 2) := by decide +kernel
theorem dX5_survey_10 : decode cX5_survey 10 = .ok (.if_icmp .ge 40, 3) := by decide +kernel
theorem dX5_survey_13 : decode cX5_survey 13 = .ok (.aload_n 0, 1) := by decide +kernel
theorem dX5_survey_14 : decode cX5_survey 14 = .ok (.dup, 1) := by decide +kernel
theorem dX5_survey_15 : decode cX5_survey 15 = .ok (.getfield 18, 3) := by decide +kernel
theorem dX5_survey_18 : decode cX5_survey 18 = .ok (.aload_n 1, 1) := by decide +kernel
theorem dX5_survey_19 : decode cX5_survey 19 = .ok (.iload_n 3, 1) := by decide +kernel
theorem dX5_survey_20 : decode cX5_survey 20 = .ok (.aaload, 1) := by decide +kernel
theorem dX5_survey_21 : decode cX5_survey 21 = .ok (.getfield 32, 3) := by decide +kernel
theorem dX5_survey_24 : decode cX5_survey 24 = .ok (.aload_n 1, 1) := by decide +kernel
theorem dX5_survey_25 : decode cX5_survey 25 = .ok (.iload_n 3, 1) := by decide +kernel
theorem dX5_survey_26 : decode cX5_survey 26 = .ok (.aaload, 1) := by decide +kernel
theorem dX5_survey_27 : decode cX5_survey 27 = .ok (.getfield 37, 3) := by decide +kernel
theorem dX5_survey_30 : decode cX5_survey 30 = .ok (.if_icmp .eq 9, 3) := by decide +kernel
theorem dX5_survey_33 : decode cX5_survey 33 = .ok (.iconst 1, 1) := by decide +kernel
theorem dX5_survey_34 : decode cX5_survey 34 = .ok (.iload_n 3, 1) := by decide +kernel
theorem dX5_survey_35 : decode cX5_survey 35 = .ok (.ishl, 1) := by decide +kernel
theorem dX5_survey_36 : decode cX5_survey 36 = .ok (.goto 4, 3) := by decide +kernel
theorem dX5_survey_39 : decode cX5_survey 39 = .ok (.iconst 0, 1) := by decide +kernel
theorem dX5_survey_40 : decode cX5_survey 40 = .ok (.ior, 1) := by decide +kernel
theorem dX5_survey_41 : decode cX5_survey 41 = .ok (.putfield 18, 3) := by decide +kernel
theorem dX5_survey_44 : decode cX5_survey 44 = .ok (.iinc 3 1, 3) := by decide +kernel
theorem dX5_survey_47 : decode cX5_survey 47 = .ok (.goto (-40), 3) := by decide +kernel
theorem dX5_survey_50 : decode cX5_survey 50 = .ok (.iconst 0, 1) := by decide +kernel
theorem dX5_survey_51 : decode cX5_survey 51 = .ok (.istore_n 3, 1) := by decide +kernel
theorem dX5_survey_52 : decode cX5_survey 52 = .ok (.iload_n 3, 1) := by decide +kernel
theorem dX5_survey_53 : decode cX5_survey 53 = .ok (.bipush 64, 2) := by decide +kernel
theorem dX5_survey_55 : decode cX5_survey 55 = .ok (.if_icmp .ge 31, 3) := by decide +kernel
theorem dX5_survey_58 : decode cX5_survey 58 = .ok (.aload_n 0, 1) := by decide +kernel
theorem dX5_survey_59 : decode cX5_survey 59 = .ok (.getfield 11, 3) := by decide +kernel
theorem dX5_survey_62 : decode cX5_survey 62 = .ok (.iload_n 3, 1) := by decide +kernel
theorem dX5_survey_63 : decode cX5_survey 63 = .ok (.iload_n 3, 1) := by decide +kernel
theorem dX5_survey_64 : decode cX5_survey 64 = .ok (.aload_n 0, 1) := by decide +kernel
theorem dX5_survey_65 : decode cX5_survey 65 = .ok (.getfield 18, 3) := by decide +kernel
theorem dX5_survey_68 : decode cX5_survey 68 = .ok (.iconst (-1), 1) := by decide +kernel
theorem dX5_survey_69 : decode cX5_survey 69 = .ok (.ixor, 1) := by decide +kernel
theorem dX5_survey_70 : decode cX5_survey 70 = .ok (.iand, 1) := by decide +kernel
theorem dX5_survey_71 : decode cX5_survey 71 = .ok (.ifCond .ne 7, 3) := by decide +kernel
theorem dX5_survey_74 : decode cX5_survey 74 = .ok (.iconst 1, 1) := by decide +kernel
theorem dX5_survey_75 : decode cX5_survey 75 = .ok (.goto 4, 3) := by decide +kernel
theorem dX5_survey_78 : decode cX5_survey 78 = .ok (.iconst 0, 1) := by decide +kernel
theorem dX5_survey_79 : decode cX5_survey 79 = .ok (.bastore, 1) := by decide +kernel
theorem dX5_survey_80 : decode cX5_survey 80 = .ok (.iinc 3 1, 3) := by decide +kernel
theorem dX5_survey_83 : decode cX5_survey 83 = .ok (.goto (-31), 3) := by decide +kernel
theorem dX5_survey_86 : decode cX5_survey 86 = .ok (.iconst 0, 1) := by decide +kernel
theorem dX5_survey_87 : decode cX5_survey 87 = .ok (.istore_n 3, 1) := by decide +kernel
theorem dX5_survey_88 : decode cX5_survey 88 = .ok (.iload_n 3, 1) := by decide +kernel
theorem dX5_survey_89 : decode cX5_survey 89 = .ok (.bipush 6, 2) := by decide +kernel
theorem dX5_survey_91 : decode cX5_survey 91 = .ok (.if_icmp .ge 57, 3) := by decide +kernel
theorem dX5_survey_94 : decode cX5_survey 94 = .ok (.iconst 0, 1) := by decide +kernel
theorem dX5_survey_95 : decode cX5_survey 95 = .ok (.istore 4, 2) := by decide +kernel
theorem dX5_survey_97 : decode cX5_survey 97 = .ok (.iload 4, 2) := by decide +kernel
theorem dX5_survey_99 : decode cX5_survey 99 = .ok (.bipush 6, 2) := by decide +kernel
theorem dX5_survey_101 : decode cX5_survey 101 = .ok (.if_icmp .ge 41, 3) := by decide +kernel
theorem dX5_survey_104 : decode cX5_survey 104 = .ok (.aload_n 1, 1) := by decide +kernel
theorem dX5_survey_105 : decode cX5_survey 105 = .ok (.iload_n 3, 1) := by decide +kernel
theorem dX5_survey_106 : decode cX5_survey 106 = .ok (.aaload, 1) := by decide +kernel
theorem dX5_survey_107 : decode cX5_survey 107 = .ok (.getfield 40, 3) := by decide +kernel
theorem dX5_survey_110 : decode cX5_survey 110 = .ok (.iload 4, 2) := by decide +kernel
theorem dX5_survey_112 : decode cX5_survey 112 = .ok (.iaload, 1) := by decide +kernel
theorem dX5_survey_113 : decode cX5_survey 113 = .ok (.istore 5, 2) := by decide +kernel
theorem dX5_survey_115 : decode cX5_survey 115 = .ok (.iload 5, 2) := by decide +kernel
theorem dX5_survey_117 : decode cX5_survey 117 = .ok (.iconst 4, 1) := by decide +kernel
theorem dX5_survey_118 : decode cX5_survey 118 = .ok (.invokestatic 43, 3) := by decide +kernel
theorem dX5_survey_121 : decode cX5_survey 121 = .ok (.ifCond .eq 15, 3) := by decide +kernel
theorem dX5_survey_124 : decode cX5_survey 124 = .ok (.aload_n 0, 1) := by decide +kernel
theorem dX5_survey_125 : decode cX5_survey 125 = .ok (.aload_n 2, 1) := by decide +kernel
theorem dX5_survey_126 : decode cX5_survey 126 = .ok (.iload 5, 2) := by decide +kernel
theorem dX5_survey_128 : decode cX5_survey 128 = .ok (.aaload, 1) := by decide +kernel
theorem dX5_survey_129 : decode cX5_survey 129 = .ok (.aload_n 1, 1) := by decide +kernel
theorem dX5_survey_130 : decode cX5_survey 130 = .ok (.iload_n 3, 1) := by decide +kernel
theorem dX5_survey_131 : decode cX5_survey 131 = .ok (.iload 4, 2) := by decide +kernel
theorem dX5_survey_133 : decode cX5_survey 133 = .ok (.invokevirtual 47, 3) := by decide +kernel
theorem dX5_survey_136 : decode cX5_survey 136 = .ok (.iinc 4 1, 3) := by decide +kernel
theorem dX5_survey_139 : decode cX5_survey 139 = .ok (.goto (-42), 3) := by decide +kernel
theorem dX5_survey_142 : decode cX5_survey 142 = .ok (.iinc 3 1, 3) := by decide +kernel
theorem dX5_survey_145 : decode cX5_survey 145 = .ok (.goto (-57), 3) := by decide +kernel
theorem dX5_survey_148 : decode cX5_survey 148 = .ok (.return_, 1) := by decide +kernel
theorem dX5_barSets_0 : decode cX5_barSets 0 = .ok (.aload_n 2, 1) := by decide +kernel
theorem dX5_barSets_1 : decode cX5_barSets 1 = .ok (.iload_n 3, 1) := by decide +kernel
theorem dX5_barSets_2 : decode cX5_barSets 2 = .ok (.aaload, 1) := by decide +kernel
theorem dX5_barSets_3 : decode cX5_barSets 3 = .ok (.astore 5, 2) := by decide +kernel
theorem dX5_barSets_5 : decode cX5_barSets 5 = .ok (.aload_n 2, 1) := by decide +kernel
theorem dX5_barSets_6 : decode cX5_barSets 6 = .ok (.iload 4, 2) := by decide +kernel
theorem dX5_barSets_8 : decode cX5_barSets 8 = .ok (.aaload, 1) := by decide +kernel
theorem dX5_barSets_9 : decode cX5_barSets 9 = .ok (.astore 6, 2) := by decide +kernel
theorem dX5_barSets_11 : decode cX5_barSets 11 = .ok (.aload_n 0, 1) := by decide +kernel
theorem dX5_barSets_12 : decode cX5_barSets 12 = .ok (.aload_n 1, 1) := by decide +kernel
theorem dX5_barSets_13 : decode cX5_barSets 13 = .ok (.aload 5, 2) := by decide +kernel
theorem dX5_barSets_15 : decode cX5_barSets 15 = .ok (.getfield 32, 3) := by decide +kernel
theorem dX5_barSets_18 : decode cX5_barSets 18 = .ok (.aload 6, 2) := by decide +kernel
theorem dX5_barSets_20 : decode cX5_barSets 20 = .ok (.getfield 32, 3) := by decide +kernel
theorem dX5_barSets_23 : decode cX5_barSets 23 = .ok (.invokevirtual 51, 3) := by decide +kernel
theorem dX5_barSets_26 : decode cX5_barSets 26 = .ok (.iload_n 3, 1) := by decide +kernel
theorem dX5_barSets_27 : decode cX5_barSets 27 = .ok (.iload 4, 2) := by decide +kernel
theorem dX5_barSets_29 : decode cX5_barSets 29 = .ok (.iconst 0, 1) := by decide +kernel
theorem dX5_barSets_30 : decode cX5_barSets 30 = .ok (.invokevirtual 56, 3) := by decide +kernel
theorem dX5_barSets_33 : decode cX5_barSets 33 = .ok (.aload_n 0, 1) := by decide +kernel
theorem dX5_barSets_34 : decode cX5_barSets 34 = .ok (.aload_n 1, 1) := by decide +kernel
theorem dX5_barSets_35 : decode cX5_barSets 35 = .ok (.aload 5, 2) := by decide +kernel
theorem dX5_barSets_37 : decode cX5_barSets 37 = .ok (.getfield 37, 3) := by decide +kernel
theorem dX5_barSets_40 : decode cX5_barSets 40 = .ok (.aload 6, 2) := by decide +kernel
theorem dX5_barSets_42 : decode cX5_barSets 42 = .ok (.getfield 32, 3) := by decide +kernel
theorem dX5_barSets_45 : decode cX5_barSets 45 = .ok (.invokevirtual 51, 3) := by decide +kernel
theorem dX5_barSets_48 : decode cX5_barSets 48 = .ok (.iload_n 3, 1) := by decide +kernel
theorem dX5_barSets_49 : decode cX5_barSets 49 = .ok (.iload 4, 2) := by decide +kernel
theorem dX5_barSets_51 : decode cX5_barSets 51 = .ok (.iconst 1, 1) := by decide +kernel
theorem dX5_barSets_52 : decode cX5_barSets 52 = .ok (.iload_n 3, 1) := by decide +kernel
theorem dX5_barSets_53 : decode cX5_barSets 53 = .ok (.ishl, 1) := by decide +kernel
theorem dX5_barSets_54 : decode cX5_barSets 54 = .ok (.invokevirtual 56, 3) := by decide +kernel
theorem dX5_barSets_57 : decode cX5_barSets 57 = .ok (.aload_n 0, 1) := by decide +kernel
theorem dX5_barSets_58 : decode cX5_barSets 58 = .ok (.aload_n 1, 1) := by decide +kernel
theorem dX5_barSets_59 : decode cX5_barSets 59 = .ok (.aload 5, 2) := by decide +kernel
theorem dX5_barSets_61 : decode cX5_barSets 61 = .ok (.getfield 32, 3) := by decide +kernel
theorem dX5_barSets_64 : decode cX5_barSets 64 = .ok (.aload 6, 2) := by decide +kernel
theorem dX5_barSets_66 : decode cX5_barSets 66 = .ok (.getfield 37, 3) := by decide +kernel
theorem dX5_barSets_69 : decode cX5_barSets 69 = .ok (.invokevirtual 51, 3) := by decide +kernel
theorem dX5_barSets_72 : decode cX5_barSets 72 = .ok (.iload_n 3, 1) := by decide +kernel
theorem dX5_barSets_73 : decode cX5_barSets 73 = .ok (.iload 4, 2) := by decide +kernel
theorem dX5_barSets_75 : decode cX5_barSets 75 = .ok (.iconst 1, 1) := by decide +kernel
theorem dX5_barSets_76 : decode cX5_barSets 76 = .ok (.iload 4, 2) := by decide +kernel
theorem dX5_barSets_78 : decode cX5_barSets 78 = .ok (.ishl, 1) := by decide +kernel
theorem dX5_barSets_79 : decode cX5_barSets 79 = .ok (.invokevirtual 56, 3) := by decide +kernel
theorem dX5_barSets_82 : decode cX5_barSets 82 = .ok (.aload_n 0, 1) := by decide +kernel
theorem dX5_barSets_83 : decode cX5_barSets 83 = .ok (.aload_n 1, 1) := by decide +kernel
theorem dX5_barSets_84 : decode cX5_barSets 84 = .ok (.aload 5, 2) := by decide +kernel
theorem dX5_barSets_86 : decode cX5_barSets 86 = .ok (.getfield 37, 3) := by decide +kernel
theorem dX5_barSets_89 : decode cX5_barSets 89 = .ok (.aload 6, 2) := by decide +kernel
theorem dX5_barSets_91 : decode cX5_barSets 91 = .ok (.getfield 37, 3) := by decide +kernel
theorem dX5_barSets_94 : decode cX5_barSets 94 = .ok (.invokevirtual 51, 3) := by decide +kernel
theorem dX5_barSets_97 : decode cX5_barSets 97 = .ok (.iload_n 3, 1) := by decide +kernel
theorem dX5_barSets_98 : decode cX5_barSets 98 = .ok (.iload 4, 2) := by decide +kernel
theorem dX5_barSets_100 : decode cX5_barSets 100 = .ok (.iconst 1, 1) := by decide +kernel
theorem dX5_barSets_101 : decode cX5_barSets 101 = .ok (.iload_n 3, 1) := by decide +kernel
theorem dX5_barSets_102 : decode cX5_barSets 102 = .ok (.ishl, 1) := by decide +kernel
theorem dX5_barSets_103 : decode cX5_barSets 103 = .ok (.iconst 1, 1) := by decide +kernel
theorem dX5_barSets_104 : decode cX5_barSets 104 = .ok (.iload 4, 2) := by decide +kernel
theorem dX5_barSets_106 : decode cX5_barSets 106 = .ok (.ishl, 1) := by decide +kernel
theorem dX5_barSets_107 : decode cX5_barSets 107 = .ok (.ior, 1) := by decide +kernel
theorem dX5_barSets_108 : decode cX5_barSets 108 = .ok (.invokevirtual 56, 3) := by decide +kernel
theorem dX5_barSets_111 : decode cX5_barSets 111 = .ok (.return_, 1) := by decide +kernel
theorem dX5_barUnless_0 : decode cX5_barUnless 0 = .ok (.iload_n 1, 1) := by decide +kernel
theorem dX5_barUnless_1 : decode cX5_barUnless 1 = .ok (.ifCond .eq 4, 3) := by decide +kernel
theorem dX5_barUnless_4 : decode cX5_barUnless 4 = .ok (.return_, 1) := by decide +kernel
theorem dX5_barUnless_5 : decode cX5_barUnless 5 = .ok (.iconst 1, 1) := by decide +kernel
theorem dX5_barUnless_6 : decode cX5_barUnless 6 = .ok (.iload_n 2, 1) := by decide +kernel
theorem dX5_barUnless_7 : decode cX5_barUnless 7 = .ok (.ishl, 1) := by decide +kernel
theorem dX5_barUnless_8 : decode cX5_barUnless 8 = .ok (.iconst 1, 1) := by decide +kernel
theorem dX5_barUnless_9 : decode cX5_barUnless 9 = .ok (.iload_n 3, 1) := by decide +kernel
theorem dX5_barUnless_10 : decode cX5_barUnless 10 = .ok (.ishl, 1) := by decide +kernel
theorem dX5_barUnless_11 : decode cX5_barUnless 11 = .ok (.ior, 1) := by decide +kernel
theorem dX5_barUnless_12 : decode cX5_barUnless 12 = .ok (.istore 5, 2) := by decide +kernel
theorem dX5_barUnless_14 : decode cX5_barUnless 14 = .ok (.iconst 0, 1) := by decide +kernel
theorem dX5_barUnless_15 : decode cX5_barUnless 15 = .ok (.istore 6, 2) := by decide +kernel
theorem dX5_barUnless_17 : decode cX5_barUnless 17 = .ok (.iload 6, 2) := by decide +kernel
theorem dX5_barUnless_19 : decode cX5_barUnless 19 = .ok (.bipush 64, 2) := by decide +kernel
theorem dX5_barUnless_21 : decode cX5_barUnless 21 = .ok (.if_icmp .ge 41, 3) := by decide +kernel
theorem dX5_barUnless_24 : decode cX5_barUnless 24 = .ok (.aload_n 0, 1) := by decide +kernel
theorem dX5_barUnless_25 : decode cX5_barUnless 25 = .ok (.getfield 11, 3) := by decide +kernel
theorem dX5_barUnless_28 : decode cX5_barUnless 28 = .ok (.iload 6, 2) := by decide +kernel
theorem dX5_barUnless_30 : decode cX5_barUnless 30 = .ok (.aload_n 0, 1) := by decide +kernel
theorem dX5_barUnless_31 : decode cX5_barUnless 31 = .ok (.getfield 11, 3) := by decide +kernel
theorem dX5_barUnless_34 : decode cX5_barUnless 34 = .ok (.iload 6, 2) := by decide +kernel
theorem dX5_barUnless_36 : decode cX5_barUnless 36 = .ok (.baload, 1) := by decide +kernel
theorem dX5_barUnless_37 : decode cX5_barUnless 37 = .ok (.ifCond .eq 17, 3) := by decide +kernel
theorem dX5_barUnless_40 : decode cX5_barUnless 40 = .ok (.iload 6, 2) := by decide +kernel
theorem dX5_barUnless_42 : decode cX5_barUnless 42 = .ok (.iload 5, 2) := by decide +kernel
theorem dX5_barUnless_44 : decode cX5_barUnless 44 = .ok (.iand, 1) := by decide +kernel
theorem dX5_barUnless_45 : decode cX5_barUnless 45 = .ok (.iload 4, 2) := by decide +kernel
theorem dX5_barUnless_47 : decode cX5_barUnless 47 = .ok (.if_icmp .eq 7, 3) := by decide +kernel
theorem dX5_barUnless_50 : decode cX5_barUnless 50 = .ok (.iconst 1, 1) := by decide +kernel
theorem dX5_barUnless_51 : decode cX5_barUnless 51 = .ok (.goto 4, 3) := by decide +kernel
theorem dX5_barUnless_54 : decode cX5_barUnless 54 = .ok (.iconst 0, 1) := by decide +kernel
theorem dX5_barUnless_55 : decode cX5_barUnless 55 = .ok (.bastore, 1) := by decide +kernel
theorem dX5_barUnless_56 : decode cX5_barUnless 56 = .ok (.iinc 6 1, 3) := by decide +kernel
theorem dX5_barUnless_59 : decode cX5_barUnless 59 = .ok (.goto (-42), 3) := by decide +kernel
theorem dX5_barUnless_62 : decode cX5_barUnless 62 = .ok (.return_, 1) := by decide +kernel
theorem dX5_fitsNow_0 : decode cX5_fitsNow 0 = .ok (.aload_n 0, 1) := by decide +kernel
theorem dX5_fitsNow_1 : decode cX5_fitsNow 1 = .ok (.getfield 11, 3) := by decide +kernel
theorem dX5_fitsNow_4 : decode cX5_fitsNow 4 = .ok (.iconst 0, 1) := by decide +kernel
theorem dX5_fitsNow_5 : decode cX5_fitsNow 5 = .ok (.baload, 1) := by decide +kernel
theorem dX5_fitsNow_6 : decode cX5_fitsNow 6 = .ok (.ireturn, 1) := by decide +kernel
theorem dX5_fitsWith_0 : decode cX5_fitsWith 0 = .ok (.aload_n 0, 1) := by decide +kernel
theorem dX5_fitsWith_1 : decode cX5_fitsWith 1 = .ok (.getfield 11, 3) := by decide +kernel
theorem dX5_fitsWith_4 : decode cX5_fitsWith 4 = .ok (.iconst 1, 1) := by decide +kernel
theorem dX5_fitsWith_5 : decode cX5_fitsWith 5 = .ok (.iload_n 1, 1) := by decide +kernel
