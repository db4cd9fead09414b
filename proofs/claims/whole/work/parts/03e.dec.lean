theorem dX12_unlikeName_108 : decode cX12_unlikeName 108 = .ok (.iconst 2, 1) := by decide +kernel
theorem dX12_unlikeName_109 : decode cX12_unlikeName 109 = .ok (.invokevirtual 235, 3) := by decide +kernel
theorem dX12_unlikeName_112 : decode cX12_unlikeName 112 = .ok (.aload_n 0, 1) := by decide +kernel
theorem dX12_unlikeName_113 : decode cX12_unlikeName 113 = .ok (.iload_n 1, 1) := by decide +kernel
theorem dX12_unlikeName_114 : decode cX12_unlikeName 114 = .ok (.iload 6, 2) := by decide +kernel
theorem dX12_unlikeName_116 : decode cX12_unlikeName 116 = .ok (.iconst 2, 1) := by decide +kernel
theorem dX12_unlikeName_117 : decode cX12_unlikeName 117 = .ok (.invokevirtual 235, 3) := by decide +kernel
theorem dX12_unlikeName_120 : decode cX12_unlikeName 120 = .ok (.if_icmp .le 6, 3) := by decide +kernel
theorem dX12_unlikeName_123 : decode cX12_unlikeName 123 = .ok (.iload 4, 2) := by decide +kernel
theorem dX12_unlikeName_125 : decode cX12_unlikeName 125 = .ok (.ireturn, 1) := by decide +kernel
theorem dX12_unlikeName_126 : decode cX12_unlikeName 126 = .ok (.iinc 4 1, 3) := by decide +kernel
theorem dX12_unlikeName_129 : decode cX12_unlikeName 129 = .ok (.goto (-126), 3) := by decide +kernel
theorem dX12_unlikeName_132 : decode cX12_unlikeName 132 = .ok (.bipush (-9), 2) := by decide +kernel
theorem dX12_unlikeName_134 : decode cX12_unlikeName 134 = .ok (.ireturn, 1) := by decide +kernel
theorem dX12_unlike_0 : decode cX12_unlike 0 = .ok (.iload_n 2, 1) := by decide +kernel
theorem dX12_unlike_1 : decode cX12_unlike 1 = .ok (.invokestatic 242, 3) := by decide +kernel
theorem dX12_unlike_4 : decode cX12_unlike 4 = .ok (.ifCond .eq 10, 3) := by decide +kernel
theorem dX12_unlike_7 : decode cX12_unlike 7 = .ok (.iload_n 3, 1) := by decide +kernel
theorem dX12_unlike_8 : decode cX12_unlike 8 = .ok (.invokestatic 242, 3) := by decide +kernel
theorem dX12_unlike_11 : decode cX12_unlike 11 = .ok (.ifCond .ne 5, 3) := by decide +kernel
theorem dX12_unlike_14 : decode cX12_unlike 14 = .ok (.iconst (-1), 1) := by decide +kernel
theorem dX12_unlike_15 : decode cX12_unlike 15 = .ok (.ireturn, 1) := by decide +kernel
theorem dX12_unlike_16 : decode cX12_unlike 16 = .ok (.aload_n 0, 1) := by decide +kernel
theorem dX12_unlike_17 : decode cX12_unlike 17 = .ok (.iload_n 1, 1) := by decide +kernel
theorem dX12_unlike_18 : decode cX12_unlike 18 = .ok (.invokevirtual 232, 3) := by decide +kernel
theorem dX12_unlike_21 : decode cX12_unlike 21 = .ok (.istore 4, 2) := by decide +kernel
theorem dX12_unlike_23 : decode cX12_unlike 23 = .ok (.iload 4, 2) := by decide +kernel
theorem dX12_unlike_25 : decode cX12_unlike 25 = .ok (.ifCond .ge 8, 3) := by decide +kernel
theorem dX12_unlike_28 : decode cX12_unlike 28 = .ok (.iload 4, 2) := by decide +kernel
theorem dX12_unlike_30 : decode cX12_unlike 30 = .ok (.goto 10, 3) := by decide +kernel
theorem dX12_unlike_33 : decode cX12_unlike 33 = .ok (.aload_n 0, 1) := by decide +kernel
theorem dX12_unlike_34 : decode cX12_unlike 34 = .ok (.iload_n 1, 1) := by decide +kernel
theorem dX12_unlike_35 : decode cX12_unlike 35 = .ok (.iload_n 2, 1) := by decide +kernel
theorem dX12_unlike_36 : decode cX12_unlike 36 = .ok (.iload_n 3, 1) := by decide +kernel
theorem dX12_unlike_37 : decode cX12_unlike 37 = .ok (.invokevirtual 276, 3) := by decide +kernel
theorem dX12_unlike_40 : decode cX12_unlike 40 = .ok (.ireturn, 1) := by decide +kernel
theorem dX12_fits_0 : decode cX12_fits 0 = .ok (.aload_n 0, 1) := by decide +kernel
theorem dX12_fits_1 : decode cX12_fits 1 = .ok (.iload_n 1, 1) := by decide +kernel
theorem dX12_fits_2 : decode cX12_fits 2 = .ok (.iload_n 2, 1) := by decide +kernel
theorem dX12_fits_3 : decode cX12_fits 3 = .ok (.iload_n 3, 1) := by decide +kernel
theorem dX12_fits_4 : decode cX12_fits 4 = .ok (.invokevirtual 279, 3) := by decide +kernel
theorem dX12_fits_7 : decode cX12_fits 7 = .ok (.istore 4, 2) := by decide +kernel
theorem dX12_fits_9 : decode cX12_fits 9 = .ok (.iload 4, 2) := by decide +kernel
theorem dX12_fits_11 : decode cX12_fits 11 = .ok (.bipush (-9), 2) := by decide +kernel
theorem dX12_fits_13 : decode cX12_fits 13 = .ok (.if_icmp .ne 7, 3) := by decide +kernel
theorem dX12_fits_16 : decode cX12_fits 16 = .ok (.iconst 1, 1) := by decide +kernel
theorem dX12_fits_17 : decode cX12_fits 17 = .ok (.goto 14, 3) := by decide +kernel
theorem dX12_fits_20 : decode cX12_fits 20 = .ok (.iload 4, 2) := by decide +kernel
theorem dX12_fits_22 : decode cX12_fits 22 = .ok (.ifCond .lt 7, 3) := by decide +kernel
theorem dX12_fits_25 : decode cX12_fits 25 = .ok (.iconst 0, 1) := by decide +kernel
theorem dX12_fits_26 : decode cX12_fits 26 = .ok (.goto 5, 3) := by decide +kernel
theorem dX12_fits_29 : decode cX12_fits 29 = .ok (.iload 4, 2) := by decide +kernel
theorem dX12_fits_31 : decode cX12_fits 31 = .ok (.ireturn, 1) := by decide +kernel
theorem dX12_version_0 : decode cX12_version 0 = .ok (.iload_n 1, 1) := by decide +kernel
theorem dX12_version_1 : decode cX12_version 1 = .ok (.invokestatic 179, 3) := by decide +kernel
theorem dX12_version_4 : decode cX12_version 4 = .ok (.ifCond .eq 17, 3) := by decide +kernel
theorem dX12_version_7 : decode cX12_version 7 = .ok (.iload_n 2, 1) := by decide +kernel
theorem dX12_version_8 : decode cX12_version 8 = .ok (.invokestatic 242, 3) := by decide +kernel
theorem dX12_version_11 : decode cX12_version 11 = .ok (.ifCond .eq 10, 3) := by decide +kernel
theorem dX12_version_14 : decode cX12_version 14 = .ok (.iload_n 3, 1) := by decide +kernel
theorem dX12_version_15 : decode cX12_version 15 = .ok (.invokestatic 242, 3) := by decide +kernel
theorem dX12_version_18 : decode cX12_version 18 = .ok (.ifCond .ne 5, 3) := by decide +kernel
theorem dX12_version_21 : decode cX12_version 21 = .ok (.iconst (-1), 1) := by decide +kernel
theorem dX12_version_22 : decode cX12_version 22 = .ok (.ireturn, 1) := by decide +kernel
theorem dX12_version_23 : decode cX12_version 23 = .ok (.aload_n 0, 1) := by decide +kernel
theorem dX12_version_24 : decode cX12_version 24 = .ok (.getfield 56, 3) := by decide +kernel
theorem dX12_version_27 : decode cX12_version 27 = .ok (.iload_n 1, 1) := by decide +kernel
theorem dX12_version_28 : decode cX12_version 28 = .ok (.iload_n 2, 1) := by decide +kernel
theorem dX12_version_29 : decode cX12_version 29 = .ok (.iastore, 1) := by decide +kernel
theorem dX12_version_30 : decode cX12_version 30 = .ok (.aload_n 0, 1) := by decide +kernel
theorem dX12_version_31 : decode cX12_version 31 = .ok (.getfield 59, 3) := by decide +kernel
theorem dX12_version_34 : decode cX12_version 34 = .ok (.iload_n 1, 1) := by decide +kernel
theorem dX12_version_35 : decode cX12_version 35 = .ok (.iload_n 3, 1) := by decide +kernel
theorem dX12_version_36 : decode cX12_version 36 = .ok (.iastore, 1) := by decide +kernel
theorem dX12_version_37 : decode cX12_version 37 = .ok (.iconst 1, 1) := by decide +kernel
theorem dX12_version_38 : decode cX12_version 38 = .ok (.ireturn, 1) := by decide +kernel
theorem dX12_door_0 : decode cX12_door 0 = .ok (.iload_n 1, 1) := by decide +kernel
theorem dX12_door_1 : decode cX12_door 1 = .ok (.invokestatic 179, 3) := by decide +kernel
theorem dX12_door_4 : decode cX12_door 4 = .ok (.ifCond .eq 28, 3) := by decide +kernel
theorem dX12_door_7 : decode cX12_door 7 = .ok (.iload_n 2, 1) := by decide +kernel
theorem dX12_door_8 : decode cX12_door 8 = .ok (.invokestatic 179, 3) := by decide +kernel
theorem dX12_door_11 : decode cX12_door 11 = .ok (.ifCond .eq 21, 3) := by decide +kernel
theorem dX12_door_14 : decode cX12_door 14 = .ok (.iload_n 1, 1) := by decide +kernel
theorem dX12_door_15 : decode cX12_door 15 = .ok (.iload_n 2, 1) := by decide +kernel
theorem dX12_door_16 : decode cX12_door 16 = .ok (.if_icmp .eq 16, 3) := by decide +kernel
theorem dX12_door_19 : decode cX12_door 19 = .ok (.iload_n 3, 1) := by decide +kernel
theorem dX12_door_20 : decode cX12_door 20 = .ok (.bipush (-9), 2) := by decide +kernel
theorem dX12_door_22 : decode cX12_door 22 = .ok (.if_icmp .eq 12, 3) := by decide +kernel
theorem dX12_door_25 : decode cX12_door 25 = .ok (.iload_n 3, 1) := by decide +kernel
theorem dX12_door_26 : decode cX12_door 26 = .ok (.invokestatic 204, 3) := by decide +kernel
theorem dX12_door_29 : decode cX12_door 29 = .ok (.ifCond .ne 5, 3) := by decide +kernel
theorem dX12_door_32 : decode cX12_door 32 = .ok (.iconst (-1), 1) := by decide +kernel
theorem dX12_door_33 : decode cX12_door 33 = .ok (.ireturn, 1) := by decide +kernel
theorem dX12_door_34 : decode cX12_door 34 = .ok (.iload_n 3, 1) := by decide +kernel
theorem dX12_door_35 : decode cX12_door 35 = .ok (.bipush (-9), 2) := by decide +kernel
theorem dX12_door_37 : decode cX12_door 37 = .ok (.if_icmp .eq 18, 3) := by decide +kernel
theorem dX12_door_40 : decode cX12_door 40 = .ok (.aload_n 0, 1) := by decide +kernel
theorem dX12_door_41 : decode cX12_door 41 = .ok (.getfield 32, 3) := by decide +kernel
theorem dX12_door_44 : decode cX12_door 44 = .ok (.iload_n 3, 1) := by decide +kernel
theorem dX12_door_45 : decode cX12_door 45 = .ok (.iaload, 1) := by decide +kernel
theorem dX12_door_46 : decode cX12_door 46 = .ok (.ifCond .ge 9, 3) := by decide +kernel
theorem dX12_door_49 : decode cX12_door 49 = .ok (.aload_n 0, 1) := by decide +kernel
theorem dX12_door_50 : decode cX12_door 50 = .ok (.iconst 1, 1) := by decide +kernel
theorem dX12_door_51 : decode cX12_door 51 = .ok (.invokevirtual 183, 3) := by decide +kernel
theorem dX12_door_54 : decode cX12_door 54 = .ok (.ireturn, 1) := by decide +kernel
theorem dX12_door_55 : decode cX12_door 55 = .ok (.aload_n 0, 1) := by decide +kernel
theorem dX12_door_56 : decode cX12_door 56 = .ok (.getfield 62, 3) := by decide +kernel
theorem dX12_door_59 : decode cX12_door 59 = .ok (.bipush 6, 2) := by decide +kernel
theorem dX12_door_61 : decode cX12_door 61 = .ok (.iload_n 1, 1) := by decide +kernel
theorem dX12_door_62 : decode cX12_door 62 = .ok (.imul, 1) := by decide +kernel
theorem dX12_door_63 : decode cX12_door 63 = .ok (.iload_n 2, 1) := by decide +kernel
theorem dX12_door_64 : decode cX12_door 64 = .ok (.iadd, 1) := by decide +kernel
theorem dX12_door_65 : decode cX12_door 65 = .ok (.iaload, 1) := by decide +kernel
theorem dX12_door_66 : decode cX12_door 66 = .ok (.istore 4, 2) := by decide +kernel
theorem dX12_door_68 : decode cX12_door 68 = .ok (.aload_n 0, 1) := by decide +kernel
theorem dX12_door_69 : decode cX12_door 69 = .ok (.getfield 62, 3) := by decide +kernel
theorem dX12_door_72 : decode cX12_door 72 = .ok (.bipush 6, 2) := by decide +kernel
theorem dX12_door_74 : decode cX12_door 74 = .ok (.iload_n 1, 1) := by decide +kernel
theorem dX12_door_75 : decode cX12_door 75 = .ok (.imul, 1) := by decide +kernel
theorem dX12_door_76 : decode cX12_door 76 = .ok (.iload_n 2, 1) := by decide +kernel
theorem dX12_door_77 : decode cX12_door 77 = .ok (.iadd, 1) := by decide +kernel
theorem dX12_door_78 : decode cX12_door 78 = .ok (.iload_n 3, 1) := by decide +kernel
theorem dX12_door_79 : decode cX12_door 79 = .ok (.iastore, 1) := by decide +kernel
theorem dX12_door_80 : decode cX12_door 80 = .ok (.iload 4, 2) := by decide +kernel
theorem dX12_door_82 : decode cX12_door 82 = .ok (.ireturn, 1) := by decide +kernel
theorem dX12_versionIn_0 : decode cX12_versionIn 0 = .ok (.iload_n 2, 1) := by decide +kernel
theorem dX12_versionIn_1 : decode cX12_versionIn 1 = .ok (.iload_n 1, 1) := by decide +kernel
theorem dX12_versionIn_2 : decode cX12_versionIn 2 = .ok (.invokestatic 216, 3) := by decide +kernel
theorem dX12_versionIn_5 : decode cX12_versionIn 5 = .ok (.ifCond .eq 12, 3) := by decide +kernel
theorem dX12_versionIn_8 : decode cX12_versionIn 8 = .ok (.aload_n 0, 1) := by decide +kernel
theorem dX12_versionIn_9 : decode cX12_versionIn 9 = .ok (.getfield 59, 3) := by decide +kernel
theorem dX12_versionIn_12 : decode cX12_versionIn 12 = .ok (.iload_n 1, 1) := by decide +kernel
theorem dX12_versionIn_13 : decode cX12_versionIn 13 = .ok (.iaload, 1) := by decide +kernel
theorem dX12_versionIn_14 : decode cX12_versionIn 14 = .ok (.goto 9, 3) := by decide +kernel
theorem dX12_versionIn_17 : decode cX12_versionIn 17 = .ok (.aload_n 0, 1) := by decide +kernel
theorem dX12_versionIn_18 : decode cX12_versionIn 18 = .ok (.getfield 56, 3) := by decide +kernel
theorem dX12_versionIn_21 : decode cX12_versionIn 21 = .ok (.iload_n 1, 1) := by decide +kernel
theorem dX12_versionIn_22 : decode cX12_versionIn 22 = .ok (.iaload, 1) := by decide +kernel
theorem dX12_versionIn_23 : decode cX12_versionIn 23 = .ok (.ireturn, 1) := by decide +kernel
theorem dX12_isPair_0 : decode cX12_isPair 0 = .ok (.aload_n 0, 1) := by decide +kernel
theorem dX12_isPair_1 : decode cX12_isPair 1 = .ok (.getfield 62, 3) := by decide +kernel
theorem dX12_isPair_4 : decode cX12_isPair 4 = .ok (.iload_n 1, 1) := by decide +kernel
theorem dX12_isPair_5 : decode cX12_isPair 5 = .ok (.iaload, 1) := by decide +kernel
theorem dX12_isPair_6 : decode cX12_isPair 6 = .ok (.istore_n 3, 1) := by decide +kernel
theorem dX12_isPair_7 : decode cX12_isPair 7 = .ok (.aload_n 0, 1) := by decide +kernel
theorem dX12_isPair_8 : decode cX12_isPair 8 = .ok (.iload_n 1, 1) := by decide +kernel
theorem dX12_isPair_9 : decode cX12_isPair 9 = .ok (.bipush 6, 2) := by decide +kernel
theorem dX12_isPair_11 : decode cX12_isPair 11 = .ok (.idiv, 1) := by decide +kernel
theorem dX12_isPair_12 : decode cX12_isPair 12 = .ok (.iload_n 2, 1) := by decide +kernel
theorem dX12_isPair_13 : decode cX12_isPair 13 = .ok (.invokevirtual 282, 3) := by decide +kernel
theorem dX12_isPair_16 : decode cX12_isPair 16 = .ok (.istore 4, 2) := by decide +kernel
theorem dX12_isPair_18 : decode cX12_isPair 18 = .ok (.aload_n 0, 1) := by decide +kernel
theorem dX12_isPair_19 : decode cX12_isPair 19 = .ok (.iload_n 1, 1) := by decide +kernel
theorem dX12_isPair_20 : decode cX12_isPair 20 = .ok (.bipush 6, 2) := by decide +kernel
theorem dX12_isPair_22 : decode cX12_isPair 22 = .ok (.irem, 1) := by decide +kernel
theorem dX12_isPair_23 : decode cX12_isPair 23 = .ok (.iload_n 2, 1) := by decide +kernel
theorem dX12_isPair_24 : decode cX12_isPair 24 = .ok (.invokevirtual 282, 3) := by decide +kernel
theorem dX12_isPair_27 : decode cX12_isPair 27 = .ok (.istore 5, 2) := by decide +kernel
theorem dX12_isPair_29 : decode cX12_isPair 29 = .ok (.iload_n 3, 1) := by decide +kernel
theorem dX12_isPair_30 : decode cX12_isPair 30 = .ok (.bipush (-9), 2) := by decide +kernel
theorem dX12_isPair_32 : decode cX12_isPair 32 = .ok (.if_icmp .eq 31, 3) := by decide +kernel
theorem dX12_isPair_35 : decode cX12_isPair 35 = .ok (.aload_n 0, 1) := by decide +kernel
theorem dX12_isPair_36 : decode cX12_isPair 36 = .ok (.iload_n 3, 1) := by decide +kernel
theorem dX12_isPair_37 : decode cX12_isPair 37 = .ok (.iload 4, 2) := by decide +kernel
theorem dX12_isPair_39 : decode cX12_isPair 39 = .ok (.iload 5, 2) := by decide +kernel
theorem dX12_isPair_41 : decode cX12_isPair 41 = .ok (.invokevirtual 276, 3) := by decide +kernel
theorem dX12_isPair_44 : decode cX12_isPair 44 = .ok (.bipush (-9), 2) := by decide +kernel
theorem dX12_isPair_46 : decode cX12_isPair 46 = .ok (.if_icmp .ne 21, 3) := by decide +kernel
theorem dX12_isPair_49 : decode cX12_isPair 49 = .ok (.aload_n 0, 1) := by decide +kernel
theorem dX12_isPair_50 : decode cX12_isPair 50 = .ok (.iload_n 3, 1) := by decide +kernel
theorem dX12_isPair_51 : decode cX12_isPair 51 = .ok (.iload 5, 2) := by decide +kernel
theorem dX12_isPair_53 : decode cX12_isPair 53 = .ok (.iload 4, 2) := by decide +kernel
theorem dX12_isPair_55 : decode cX12_isPair 55 = .ok (.invokevirtual 276, 3) := by decide +kernel
theorem dX12_isPair_58 : decode cX12_isPair 58 = .ok (.bipush (-9), 2) := by decide +kernel
theorem dX12_isPair_60 : decode cX12_isPair 60 = .ok (.if_icmp .ne 7, 3) := by decide +kernel
theorem dX12_isPair_63 : decode cX12_isPair 63 = .ok (.iconst 1, 1) := by decide +kernel
theorem dX12_isPair_64 : decode cX12_isPair 64 = .ok (.goto 4, 3) := by decide +kernel
theorem dX12_isPair_67 : decode cX12_isPair 67 = .ok (.iconst 0, 1) := by decide +kernel
theorem dX12_isPair_68 : decode cX12_isPair 68 = .ok (.ireturn, 1) := by decide +kernel
theorem dX12_allFit_0 : decode cX12_allFit 0 = .ok (.iconst 1, 1) := by decide +kernel
theorem dX12_allFit_1 : decode cX12_allFit 1 = .ok (.istore_n 2, 1) := by decide +kernel
theorem dX12_allFit_2 : decode cX12_allFit 2 = .ok (.iconst 0, 1) := by decide +kernel
theorem dX12_allFit_3 : decode cX12_allFit 3 = .ok (.istore_n 3, 1) := by decide +kernel
theorem dX12_allFit_4 : decode cX12_allFit 4 = .ok (.iload_n 3, 1) := by decide +kernel
theorem dX12_allFit_5 : decode cX12_allFit 5 = .ok (.bipush 36, 2) := by decide +kernel
theorem dX12_allFit_7 : decode cX12_allFit 7 = .ok (.if_icmp .ge 28, 3) := by decide +kernel
theorem dX12_allFit_10 : decode cX12_allFit 10 = .ok (.iload_n 2, 1) := by decide +kernel
theorem dX12_allFit_11 : decode cX12_allFit 11 = .ok (.ifCond .eq 16, 3) := by decide +kernel
theorem dX12_allFit_14 : decode cX12_allFit 14 = .ok (.aload_n 0, 1) := by decide +kernel
theorem dX12_allFit_15 : decode cX12_allFit 15 = .ok (.iload_n 3, 1) := by decide +kernel
theorem dX12_allFit_16 : decode cX12_allFit 16 = .ok (.iload_n 1, 1) := by decide +kernel
theorem dX12_allFit_17 : decode cX12_allFit 17 = .ok (.invokevirtual 285, 3) := by decide +kernel
theorem dX12_allFit_20 : decode cX12_allFit 20 = .ok (.ifCond .eq 7, 3) := by decide +kernel
theorem dX12_allFit_23 : decode cX12_allFit 23 = .ok (.iconst 1, 1) := by decide +kernel
theorem dX12_allFit_24 : decode cX12_allFit 24 = .ok (.goto 4, 3) := by decide +kernel
theorem dX12_allFit_27 : decode cX12_allFit 27 = .ok (.iconst 0, 1) := by decide +kernel
theorem dX12_allFit_28 : decode cX12_allFit 28 = .ok (.istore_n 2, 1) := by decide +kernel
theorem dX12_allFit_29 : decode cX12_allFit 29 = .ok (.iinc 3 1, 3) := by decide +kernel
theorem dX12_allFit_32 : decode cX12_allFit 32 = .ok (.goto (-28), 3) := by decide +kernel
theorem dX12_allFit_35 : decode cX12_allFit 35 = .ok (.iload_n 2, 1) := by decide +kernel
theorem dX12_allFit_36 : decode cX12_allFit 36 = .ok (.ireturn, 1) := by decide +kernel
theorem dX12_clash_0 : decode cX12_clash 0 = .ok (.iconst 0, 1) := by decide +kernel
theorem dX12_clash_1 : decode cX12_clash 1 = .ok (.istore_n 1, 1) := by decide +kernel
theorem dX12_clash_2 : decode cX12_clash 2 = .ok (.bipush (-9), 2) := by decide +kernel
theorem dX12_clash_4 : decode cX12_clash 4 = .ok (.istore_n 2, 1) := by decide +kernel
theorem dX12_clash_5 : decode cX12_clash 5 = .ok (.iconst 0, 1) := by decide +kernel
theorem dX12_clash_6 : decode cX12_clash 6 = .ok (.istore_n 3, 1) := by decide +kernel
theorem dX12_clash_7 : decode cX12_clash 7 = .ok (.iload_n 3, 1) := by decide +kernel
theorem dX12_clash_8 : decode cX12_clash 8 = .ok (.bipush 36, 2) := by decide +kernel
theorem dX12_clash_10 : decode cX12_clash 10 = .ok (.if_icmp .ge 31, 3) := by decide +kernel
theorem dX12_clash_13 : decode cX12_clash 13 = .ok (.aload_n 0, 1) := by decide +kernel
theorem dX12_clash_14 : decode cX12_clash 14 = .ok (.iload_n 3, 1) := by decide +kernel
theorem dX12_clash_15 : decode cX12_clash 15 = .ok (.iconst 0, 1) := by decide +kernel
theorem dX12_clash_16 : decode cX12_clash 16 = .ok (.invokevirtual 285, 3) := by decide +kernel
theorem dX12_clash_19 : decode cX12_clash 19 = .ok (.ifCond .ne 16, 3) := by decide +kernel
theorem dX12_clash_22 : decode cX12_clash 22 = .ok (.iload_n 1, 1) := by decide +kernel
theorem dX12_clash_23 : decode cX12_clash 23 = .ok (.ifCond .ne 7, 3) := by decide +kernel
theorem dX12_clash_26 : decode cX12_clash 26 = .ok (.iload_n 3, 1) := by decide +kernel
theorem dX12_clash_27 : decode cX12_clash 27 = .ok (.goto 4, 3) := by decide +kernel
theorem dX12_clash_30 : decode cX12_clash 30 = .ok (.iload_n 2, 1) := by decide +kernel
theorem dX12_clash_31 : decode cX12_clash 31 = .ok (.istore_n 2, 1) := by decide +kernel
theorem dX12_clash_32 : decode cX12_clash 32 = .ok (.iinc 1 1, 3) := by decide +kernel
theorem dX12_clash_35 : decode cX12_clash 35 = .ok (.iinc 3 1, 3) := by decide +kernel
theorem dX12_clash_38 : decode cX12_clash 38 = .ok (.goto (-31), 3) := by decide +kernel
theorem dX12_clash_41 : decode cX12_clash 41 = .ok (.aload_n 0, 1) := by decide +kernel
theorem dX12_clash_42 : decode cX12_clash 42 = .ok (.iload_n 2, 1) := by decide +kernel
theorem dX12_clash_43 : decode cX12_clash 43 = .ok (.iload_n 1, 1) := by decide +kernel
theorem dX12_clash_44 : decode cX12_clash 44 = .ok (.invokevirtual 194, 3) := by decide +kernel
theorem dX12_clash_47 : decode cX12_clash 47 = .ok (.ireturn, 1) := by decide +kernel
theorem dX12_changed_0 : decode cX12_changed 0 = .ok (.iconst 0, 1) := by decide +kernel
theorem dX12_changed_1 : decode cX12_changed 1 = .ok (.istore_n 1, 1) := by decide +kernel
theorem dX12_changed_2 : decode cX12_changed 2 = .ok (.iconst 0, 1) := by decide +kernel
theorem dX12_changed_3 : decode cX12_changed 3 = .ok (.istore_n 2, 1) := by decide +kernel
theorem dX12_changed_4 : decode cX12_changed 4 = .ok (.iload_n 2, 1) := by decide +kernel
theorem dX12_changed_5 : decode cX12_changed 5 = .ok (.bipush 6, 2) := by decide +kernel
theorem dX12_changed_7 : decode cX12_changed 7 = .ok (.if_icmp .ge 34, 3) := by decide +kernel
theorem dX12_changed_10 : decode cX12_changed 10 = .ok (.iload_n 1, 1) := by decide +kernel
theorem dX12_changed_11 : decode cX12_changed 11 = .ok (.aload_n 0, 1) := by decide +kernel
theorem dX12_changed_12 : decode cX12_changed 12 = .ok (.getfield 56, 3) := by decide +kernel
theorem dX12_changed_15 : decode cX12_changed 15 = .ok (.iload_n 2, 1) := by decide +kernel
theorem dX12_changed_16 : decode cX12_changed 16 = .ok (.iaload, 1) := by decide +kernel
theorem dX12_changed_17 : decode cX12_changed 17 = .ok (.aload_n 0, 1) := by decide +kernel
theorem dX12_changed_18 : decode cX12_changed 18 = .ok (.getfield 59, 3) := by decide +kernel
theorem dX12_changed_21 : decode cX12_changed 21 = .ok (.iload_n 2, 1) := by decide +kernel
theorem dX12_changed_22 : decode cX12_changed 22 = .ok (.iaload, 1) := by decide +kernel
theorem dX12_changed_23 : decode cX12_changed 23 = .ok (.if_icmp .eq 9, 3) := by decide +kernel
theorem dX12_changed_26 : decode cX12_changed 26 = .ok (.iconst 1, 1) := by decide +kernel
theorem dX12_changed_27 : decode cX12_changed 27 = .ok (.iload_n 2, 1) := by decide +kernel
theorem dX12_changed_28 : decode cX12_changed 28 = .ok (.ishl, 1) := by decide +kernel
theorem dX12_changed_29 : decode cX12_changed 29 = .ok (.goto 4, 3) := by decide +kernel
theorem dX12_changed_32 : decode cX12_changed 32 = .ok (.iconst 0, 1) := by decide +kernel
theorem dX12_changed_33 : decode cX12_changed 33 = .ok (.ior, 1) := by decide +kernel
theorem dX12_changed_34 : decode cX12_changed 34 = .ok (.istore_n 1, 1) := by decide +kernel
theorem dX12_changed_35 : decode cX12_changed 35 = .ok (.iinc 2 1, 3) := by decide +kernel
theorem dX12_changed_38 : decode cX12_changed 38 = .ok (.goto (-34), 3) := by decide +kernel
theorem dX12_changed_41 : decode cX12_changed 41 = .ok (.iload_n 1, 1) := by decide +kernel
theorem dX12_changed_42 : decode cX12_changed 42 = .ok (.ireturn, 1) := by decide +kernel
theorem dX12_setOrders_0 : decode cX12_setOrders 0 = .ok (.aload_n 0, 1) := by decide +kernel
theorem dX12_setOrders_1 : decode cX12_setOrders 1 = .ok (.invokevirtual 288, 3) := by decide +kernel
theorem dX12_setOrders_4 : decode cX12_setOrders 4 = .ok (.istore_n 1, 1) := by decide +kernel
theorem dX12_setOrders_5 : decode cX12_setOrders 5 = .ok (.iconst 0, 1) := by decide +kernel
theorem dX12_setOrders_6 : decode cX12_setOrders 6 = .ok (.istore_n 2, 1) := by decide +kernel
theorem dX12_setOrders_7 : decode cX12_setOrders 7 = .ok (.iload_n 2, 1) := by decide +kernel
theorem dX12_setOrders_8 : decode cX12_setOrders 8 = .ok (.bipush 64, 2) := by decide +kernel
theorem dX12_setOrders_10 : decode cX12_setOrders 10 = .ok (.if_icmp .ge 117, 3) := by decide +kernel
theorem dX12_setOrders_13 : decode cX12_setOrders 13 = .ok (.aload_n 0, 1) := by decide +kernel
theorem dX12_setOrders_14 : decode cX12_setOrders 14 = .ok (.getfield 65, 3) := by decide +kernel
theorem dX12_setOrders_17 : decode cX12_setOrders 17 = .ok (.iload_n 2, 1) := by decide +kernel
theorem dX12_setOrders_18 : decode cX12_setOrders 18 = .ok (.iload_n 2, 1) := by decide +kernel
theorem dX12_setOrders_19 : decode cX12_setOrders 19 = .ok (.ifCond .ne 7, 3) := by decide +kernel
theorem dX12_setOrders_22 : decode cX12_setOrders 22 = .ok (.iconst 1, 1) := by decide +kernel
theorem dX12_setOrders_23 : decode cX12_setOrders 23 = .ok (.goto 4, 3) := by decide +kernel
theorem dX12_setOrders_26 : decode cX12_setOrders 26 = .ok (.iconst 0, 1) := by decide +kernel
theorem dX12_setOrders_27 : decode cX12_setOrders 27 = .ok (.bastore, 1) := by decide +kernel
theorem dX12_setOrders_28 : decode cX12_setOrders 28 = .ok (.iconst 0, 1) := by decide +kernel
theorem dX12_setOrders_29 : decode cX12_setOrders 29 = .ok (.istore_n 3, 1) := by decide +kernel
theorem dX12_setOrders_30 : decode cX12_setOrders 30 = .ok (.iload_n 3, 1) := by decide +kernel
theorem dX12_setOrders_31 : decode cX12_setOrders 31 = .ok (.bipush 6, 2) := by decide +kernel
theorem dX12_setOrders_33 : decode cX12_setOrders 33 = .ok (.if_icmp .ge 52, 3) := by decide +kernel
theorem dX12_setOrders_36 : decode cX12_setOrders 36 = .ok (.aload_n 0, 1) := by decide +kernel
theorem dX12_setOrders_37 : decode cX12_setOrders 37 = .ok (.getfield 65, 3) := by decide +kernel
theorem dX12_setOrders_40 : decode cX12_setOrders 40 = .ok (.iload_n 2, 1) := by decide +kernel
theorem dX12_setOrders_41 : decode cX12_setOrders 41 = .ok (.aload_n 0, 1) := by decide +kernel
theorem dX12_setOrders_42 : decode cX12_setOrders 42 = .ok (.getfield 65, 3) := by decide +kernel
theorem dX12_setOrders_45 : decode cX12_setOrders 45 = .ok (.iload_n 2, 1) := by decide +kernel
theorem dX12_setOrders_46 : decode cX12_setOrders 46 = .ok (.baload, 1) := by decide +kernel
theorem dX12_setOrders_47 : decode cX12_setOrders 47 = .ok (.ifCond .ne 26, 3) := by decide +kernel
theorem dX12_setOrders_50 : decode cX12_setOrders 50 = .ok (.iload_n 2, 1) := by decide +kernel
theorem dX12_setOrders_51 : decode cX12_setOrders 51 = .ok (.iload_n 3, 1) := by decide +kernel
theorem dX12_setOrders_52 : decode cX12_setOrders 52 = .ok (.invokestatic 216, 3) := by decide +kernel
theorem dX12_setOrders_55 : decode cX12_setOrders 55 = .ok (.ifCond .eq 22, 3) := by decide +kernel
theorem dX12_setOrders_58 : decode cX12_setOrders 58 = .ok (.aload_n 0, 1) := by decide +kernel
theorem dX12_setOrders_59 : decode cX12_setOrders 59 = .ok (.getfield 65, 3) := by decide +kernel
theorem dX12_setOrders_62 : decode cX12_setOrders 62 = .ok (.iload_n 2, 1) := by decide +kernel
theorem dX12_setOrders_63 : decode cX12_setOrders 63 = .ok (.iconst 1, 1) := by decide +kernel
theorem dX12_setOrders_64 : decode cX12_setOrders 64 = .ok (.iload_n 3, 1) := by decide +kernel
theorem dX12_setOrders_65 : decode cX12_setOrders 65 = .ok (.ishl, 1) := by decide +kernel
theorem dX12_setOrders_66 : decode cX12_setOrders 66 = .ok (.iconst (-1), 1) := by decide +kernel
theorem dX12_setOrders_67 : decode cX12_setOrders 67 = .ok (.ixor, 1) := by decide +kernel
theorem dX12_setOrders_68 : decode cX12_setOrders 68 = .ok (.iand, 1) := by decide +kernel
theorem dX12_setOrders_69 : decode cX12_setOrders 69 = .ok (.baload, 1) := by decide +kernel
theorem dX12_setOrders_70 : decode cX12_setOrders 70 = .ok (.ifCond .eq 7, 3) := by decide +kernel
theorem dX12_setOrders_73 : decode cX12_setOrders 73 = .ok (.iconst 1, 1) := by decide +kernel
theorem dX12_setOrders_74 : decode cX12_setOrders 74 = .ok (.goto 4, 3) := by decide +kernel
theorem dX12_setOrders_77 : decode cX12_setOrders 77 = .ok (.iconst 0, 1) := by decide +kernel
theorem dX12_setOrders_78 : decode cX12_setOrders 78 = .ok (.bastore, 1) := by decide +kernel
theorem dX12_setOrders_79 : decode cX12_setOrders 79 = .ok (.iinc 3 1, 3) := by decide +kernel
theorem dX12_setOrders_82 : decode cX12_setOrders 82 = .ok (.goto (-52), 3) := by decide +kernel
theorem dX12_setOrders_85 : decode cX12_setOrders 85 = .ok (.aload_n 0, 1) := by decide +kernel
theorem dX12_setOrders_86 : decode cX12_setOrders 86 = .ok (.getfield 65, 3) := by decide +kernel
theorem dX12_setOrders_89 : decode cX12_setOrders 89 = .ok (.iload_n 2, 1) := by decide +kernel
theorem dX12_setOrders_90 : decode cX12_setOrders 90 = .ok (.aload_n 0, 1) := by decide +kernel
theorem dX12_setOrders_91 : decode cX12_setOrders 91 = .ok (.getfield 65, 3) := by decide +kernel
theorem dX12_setOrders_94 : decode cX12_setOrders 94 = .ok (.iload_n 2, 1) := by decide +kernel
theorem dX12_setOrders_95 : decode cX12_setOrders 95 = .ok (.baload, 1) := by decide +kernel
theorem dX12_setOrders_96 : decode cX12_setOrders 96 = .ok (.ifCond .eq 23, 3) := by decide +kernel
theorem dX12_setOrders_99 : decode cX12_setOrders 99 = .ok (.iload_n 2, 1) := by decide +kernel
theorem dX12_setOrders_100 : decode cX12_setOrders 100 = .ok (.iload_n 1, 1) := by decide +kernel
theorem dX12_setOrders_101 : decode cX12_setOrders 101 = .ok (.iconst (-1), 1) := by decide +kernel
theorem dX12_setOrders_102 : decode cX12_setOrders 102 = .ok (.ixor, 1) := by decide +kernel
theorem dX12_setOrders_103 : decode cX12_setOrders 103 = .ok (.iand, 1) := by decide +kernel
theorem dX12_setOrders_104 : decode cX12_setOrders 104 = .ok (.ifCond .ne 15, 3) := by decide +kernel
theorem dX12_setOrders_107 : decode cX12_setOrders 107 = .ok (.aload_n 0, 1) := by decide +kernel
theorem dX12_setOrders_108 : decode cX12_setOrders 108 = .ok (.iload_n 2, 1) := by decide +kernel
theorem dX12_setOrders_109 : decode cX12_setOrders 109 = .ok (.invokevirtual 292, 3) := by decide +kernel
theorem dX12_setOrders_112 : decode cX12_setOrders 112 = .ok (.ifCond .eq 7, 3) := by decide +kernel
theorem dX12_setOrders_115 : decode cX12_setOrders 115 = .ok (.iconst 1, 1) := by decide +kernel
theorem dX12_setOrders_116 : decode cX12_setOrders 116 = .ok (.goto 4, 3) := by decide +kernel
theorem dX12_setOrders_119 : decode cX12_setOrders 119 = .ok (.iconst 0, 1) := by decide +kernel
theorem dX12_setOrders_120 : decode cX12_setOrders 120 = .ok (.bastore, 1) := by decide +kernel
theorem dX12_setOrders_121 : decode cX12_setOrders 121 = .ok (.iinc 2 1, 3) := by decide +kernel
theorem dX12_setOrders_124 : decode cX12_setOrders 124 = .ok (.goto (-117), 3) := by decide +kernel
theorem dX12_setOrders_127 : decode cX12_setOrders 127 = .ok (.bipush 63, 2) := by decide +kernel
theorem dX12_setOrders_129 : decode cX12_setOrders 129 = .ok (.istore_n 2, 1) := by decide +kernel
theorem dX12_setOrders_130 : decode cX12_setOrders 130 = .ok (.iload_n 2, 1) := by decide +kernel
theorem dX12_setOrders_131 : decode cX12_setOrders 131 = .ok (.ifCond .lt 117, 3) := by decide +kernel
theorem dX12_setOrders_134 : decode cX12_setOrders 134 = .ok (.aload_n 0, 1) := by decide +kernel
theorem dX12_setOrders_135 : decode cX12_setOrders 135 = .ok (.getfield 69, 3) := by decide +kernel
theorem dX12_setOrders_138 : decode cX12_setOrders 138 = .ok (.iload_n 2, 1) := by decide +kernel
theorem dX12_setOrders_139 : decode cX12_setOrders 139 = .ok (.iload_n 2, 1) := by decide +kernel
theorem dX12_setOrders_140 : decode cX12_setOrders 140 = .ok (.iload_n 1, 1) := by decide +kernel
theorem dX12_setOrders_141 : decode cX12_setOrders 141 = .ok (.if_icmp .ne 7, 3) := by decide +kernel
theorem dX12_setOrders_144 : decode cX12_setOrders 144 = .ok (.iconst 1, 1) := by decide +kernel
theorem dX12_setOrders_145 : decode cX12_setOrders 145 = .ok (.goto 4, 3) := by decide +kernel
theorem dX12_setOrders_148 : decode cX12_setOrders 148 = .ok (.iconst 0, 1) := by decide +kernel
theorem dX12_setOrders_149 : decode cX12_setOrders 149 = .ok (.bastore, 1) := by decide +kernel
theorem dX12_setOrders_150 : decode cX12_setOrders 150 = .ok (.iconst 0, 1) := by decide +kernel
theorem dX12_setOrders_151 : decode cX12_setOrders 151 = .ok (.istore_n 3, 1) := by decide +kernel
theorem dX12_setOrders_152 : decode cX12_setOrders 152 = .ok (.iload_n 3, 1) := by decide +kernel
theorem dX12_setOrders_153 : decode cX12_setOrders 153 = .ok (.bipush 6, 2) := by decide +kernel
theorem dX12_setOrders_155 : decode cX12_setOrders 155 = .ok (.if_icmp .ge 58, 3) := by decide +kernel
theorem dX12_setOrders_158 : decode cX12_setOrders 158 = .ok (.aload_n 0, 1) := by decide +kernel
theorem dX12_setOrders_159 : decode cX12_setOrders 159 = .ok (.getfield 69, 3) := by decide +kernel
theorem dX12_setOrders_162 : decode cX12_setOrders 162 = .ok (.iload_n 2, 1) := by decide +kernel
theorem dX12_setOrders_163 : decode cX12_setOrders 163 = .ok (.aload_n 0, 1) := by decide +kernel
theorem dX12_setOrders_164 : decode cX12_setOrders 164 = .ok (.getfield 69, 3) := by decide +kernel
theorem dX12_setOrders_167 : decode cX12_setOrders 167 = .ok (.iload_n 2, 1) := by decide +kernel
theorem dX12_setOrders_168 : decode cX12_setOrders 168 = .ok (.baload, 1) := by decide +kernel
theorem dX12_setOrders_169 : decode cX12_setOrders 169 = .ok (.ifCond .ne 32, 3) := by decide +kernel
theorem dX12_setOrders_172 : decode cX12_setOrders 172 = .ok (.iload_n 2, 1) := by decide +kernel
theorem dX12_setOrders_173 : decode cX12_setOrders 173 = .ok (.iload_n 3, 1) := by decide +kernel
theorem dX12_setOrders_174 : decode cX12_setOrders 174 = .ok (.invokestatic 216, 3) := by decide +kernel
theorem dX12_setOrders_177 : decode cX12_setOrders 177 = .ok (.ifCond .ne 28, 3) := by decide +kernel
theorem dX12_setOrders_180 : decode cX12_setOrders 180 = .ok (.iload_n 1, 1) := by decide +kernel
theorem dX12_setOrders_181 : decode cX12_setOrders 181 = .ok (.iload_n 3, 1) := by decide +kernel
theorem dX12_setOrders_182 : decode cX12_setOrders 182 = .ok (.invokestatic 216, 3) := by decide +kernel
theorem dX12_setOrders_185 : decode cX12_setOrders 185 = .ok (.ifCond .eq 20, 3) := by decide +kernel
theorem dX12_setOrders_188 : decode cX12_setOrders 188 = .ok (.aload_n 0, 1) := by decide +kernel
theorem dX12_setOrders_189 : decode cX12_setOrders 189 = .ok (.getfield 69, 3) := by decide +kernel
theorem dX12_setOrders_192 : decode cX12_setOrders 192 = .ok (.iload_n 2, 1) := by decide +kernel
theorem dX12_setOrders_193 : decode cX12_setOrders 193 = .ok (.iconst 1, 1) := by decide +kernel
theorem dX12_setOrders_194 : decode cX12_setOrders 194 = .ok (.iload_n 3, 1) := by decide +kernel
theorem dX12_setOrders_195 : decode cX12_setOrders 195 = .ok (.ishl, 1) := by decide +kernel
theorem dX12_setOrders_196 : decode cX12_setOrders 196 = .ok (.ior, 1) := by decide +kernel
theorem dX12_setOrders_197 : decode cX12_setOrders 197 = .ok (.baload, 1) := by decide +kernel
theorem dX12_setOrders_198 : decode cX12_setOrders 198 = .ok (.ifCond .eq 7, 3) := by decide +kernel
theorem dX12_setOrders_201 : decode cX12_setOrders 201 = .ok (.iconst 1, 1) := by decide +kernel
theorem dX12_setOrders_202 : decode cX12_setOrders 202 = .ok (.goto 4, 3) := by decide +kernel
theorem dX12_setOrders_205 : decode cX12_setOrders 205 = .ok (.iconst 0, 1) := by decide +kernel
theorem dX12_setOrders_206 : decode cX12_setOrders 206 = .ok (.bastore, 1) := by decide +kernel
theorem dX12_setOrders_207 : decode cX12_setOrders 207 = .ok (.iinc 3 1, 3) := by decide +kernel
theorem dX12_setOrders_210 : decode cX12_setOrders 210 = .ok (.goto (-58), 3) := by decide +kernel
theorem dX12_setOrders_213 : decode cX12_setOrders 213 = .ok (.aload_n 0, 1) := by decide +kernel
theorem dX12_setOrders_214 : decode cX12_setOrders 214 = .ok (.getfield 69, 3) := by decide +kernel
theorem dX12_setOrders_217 : decode cX12_setOrders 217 = .ok (.iload_n 2, 1) := by decide +kernel
theorem dX12_setOrders_218 : decode cX12_setOrders 218 = .ok (.aload_n 0, 1) := by decide +kernel
theorem dX12_setOrders_219 : decode cX12_setOrders 219 = .ok (.getfield 69, 3) := by decide +kernel
theorem dX12_setOrders_222 : decode cX12_setOrders 222 = .ok (.iload_n 2, 1) := by decide +kernel
theorem dX12_setOrders_223 : decode cX12_setOrders 223 = .ok (.baload, 1) := by decide +kernel
theorem dX12_setOrders_224 : decode cX12_setOrders 224 = .ok (.ifCond .eq 16, 3) := by decide +kernel
theorem dX12_setOrders_227 : decode cX12_setOrders 227 = .ok (.aload_n 0, 1) := by decide +kernel
theorem dX12_setOrders_228 : decode cX12_setOrders 228 = .ok (.getfield 65, 3) := by decide +kernel
theorem dX12_setOrders_231 : decode cX12_setOrders 231 = .ok (.iload_n 2, 1) := by decide +kernel
theorem dX12_setOrders_232 : decode cX12_setOrders 232 = .ok (.baload, 1) := by decide +kernel
theorem dX12_setOrders_233 : decode cX12_setOrders 233 = .ok (.ifCond .eq 7, 3) := by decide +kernel
theorem dX12_setOrders_236 : decode cX12_setOrders 236 = .ok (.iconst 1, 1) := by decide +kernel
theorem dX12_setOrders_237 : decode cX12_setOrders 237 = .ok (.goto 4, 3) := by decide +kernel
theorem dX12_setOrders_240 : decode cX12_setOrders 240 = .ok (.iconst 0, 1) := by decide +kernel
theorem dX12_setOrders_241 : decode cX12_setOrders 241 = .ok (.bastore, 1) := by decide +kernel
theorem dX12_setOrders_242 : decode cX12_setOrders 242 = .ok (.iinc 2 (-1), 3) := by decide +kernel
theorem dX12_setOrders_245 : decode cX12_setOrders 245 = .ok (.goto (-115), 3) := by decide +kernel
theorem dX12_setOrders_248 : decode cX12_setOrders 248 = .ok (.return_, 1) := by decide +kernel
theorem dX12_order_0 : decode cX12_order 0 = .ok (.aload_n 0, 1) := by decide +kernel
theorem dX12_order_1 : decode cX12_order 1 = .ok (.iconst 0, 1) := by decide +kernel
theorem dX12_order_2 : decode cX12_order 2 = .ok (.invokevirtual 292, 3) := by decide +kernel
theorem dX12_order_5 : decode cX12_order 5 = .ok (.ifCond .ne 6, 3) := by decide +kernel
theorem dX12_order_8 : decode cX12_order 8 = .ok (.bipush (-4), 2) := by decide +kernel
theorem dX12_order_10 : decode cX12_order 10 = .ok (.ireturn, 1) := by decide +kernel
theorem dX12_order_11 : decode cX12_order 11 = .ok (.aload_n 0, 1) := by decide +kernel
theorem dX12_order_12 : decode cX12_order 12 = .ok (.invokevirtual 295, 3) := by decide +kernel
theorem dX12_order_15 : decode cX12_order 15 = .ok (.iconst 0, 1) := by decide +kernel
theorem dX12_order_16 : decode cX12_order 16 = .ok (.istore_n 1, 1) := by decide +kernel
theorem dX12_order_17 : decode cX12_order 17 = .ok (.iconst 1, 1) := by decide +kernel
theorem dX12_order_18 : decode cX12_order 18 = .ok (.istore_n 2, 1) := by decide +kernel
theorem dX12_order_19 : decode cX12_order 19 = .ok (.iload_n 2, 1) := by decide +kernel
theorem dX12_order_20 : decode cX12_order 20 = .ok (.bipush 64, 2) := by decide +kernel
theorem dX12_order_22 : decode cX12_order 22 = .ok (.if_icmp .ge 35, 3) := by decide +kernel
theorem dX12_order_25 : decode cX12_order 25 = .ok (.aload_n 0, 1) := by decide +kernel
theorem dX12_order_26 : decode cX12_order 26 = .ok (.getfield 65, 3) := by decide +kernel
theorem dX12_order_29 : decode cX12_order 29 = .ok (.iload_n 2, 1) := by decide +kernel
theorem dX12_order_30 : decode cX12_order 30 = .ok (.baload, 1) := by decide +kernel
theorem dX12_order_31 : decode cX12_order 31 = .ok (.ifCond .eq 18, 3) := by decide +kernel
theorem dX12_order_34 : decode cX12_order 34 = .ok (.iload_n 2, 1) := by decide +kernel
theorem dX12_order_35 : decode cX12_order 35 = .ok (.invokestatic 298, 3) := by decide +kernel
theorem dX12_order_38 : decode cX12_order 38 = .ok (.iload_n 1, 1) := by decide +kernel
theorem dX12_order_39 : decode cX12_order 39 = .ok (.invokestatic 298, 3) := by decide +kernel
theorem dX12_order_42 : decode cX12_order 42 = .ok (.if_icmp .le 7, 3) := by decide +kernel
theorem dX12_order_45 : decode cX12_order 45 = .ok (.iload_n 2, 1) := by decide +kernel
theorem dX12_order_46 : decode cX12_order 46 = .ok (.goto 4, 3) := by decide +kernel
theorem dX12_order_49 : decode cX12_order 49 = .ok (.iload_n 1, 1) := by decide +kernel
theorem dX12_order_50 : decode cX12_order 50 = .ok (.istore_n 1, 1) := by decide +kernel
theorem dX12_order_51 : decode cX12_order 51 = .ok (.iinc 2 1, 3) := by decide +kernel
theorem dX12_order_54 : decode cX12_order 54 = .ok (.goto (-35), 3) := by decide +kernel
theorem dX12_order_57 : decode cX12_order 57 = .ok (.aload_n 0, 1) := by decide +kernel
theorem dX12_order_58 : decode cX12_order 58 = .ok (.iload_n 1, 1) := by decide +kernel
theorem dX12_order_59 : decode cX12_order 59 = .ok (.aload_n 0, 1) := by decide +kernel
theorem dX12_order_60 : decode cX12_order 60 = .ok (.getfield 69, 3) := by decide +kernel
theorem dX12_order_63 : decode cX12_order 63 = .ok (.iconst 0, 1) := by decide +kernel
theorem dX12_order_64 : decode cX12_order 64 = .ok (.baload, 1) := by decide +kernel
theorem dX12_order_65 : decode cX12_order 65 = .ok (.ifCond .eq 13, 3) := by decide +kernel
theorem dX12_order_68 : decode cX12_order 68 = .ok (.aload_n 0, 1) := by decide +kernel
theorem dX12_order_69 : decode cX12_order 69 = .ok (.invokevirtual 288, 3) := by decide +kernel
theorem dX12_order_72 : decode cX12_order 72 = .ok (.invokestatic 298, 3) := by decide +kernel
theorem dX12_order_75 : decode cX12_order 75 = .ok (.goto 5, 3) := by decide +kernel
theorem dX12_order_78 : decode cX12_order 78 = .ok (.bipush (-9), 2) := by decide +kernel
theorem dX12_order_80 : decode cX12_order 80 = .ok (.invokevirtual 194, 3) := by decide +kernel
theorem dX12_order_83 : decode cX12_order 83 = .ok (.ireturn, 1) := by decide +kernel
theorem dX12_orderAt_0 : decode cX12_orderAt 0 = .ok (.iload_n 1, 1) := by decide +kernel
theorem dX12_orderAt_1 : decode cX12_orderAt 1 = .ok (.ifCond .ge 5, 3) := by decide +kernel
theorem dX12_orderAt_4 : decode cX12_orderAt 4 = .ok (.iconst (-1), 1) := by decide +kernel
theorem dX12_orderAt_5 : decode cX12_orderAt 5 = .ok (.ireturn, 1) := by decide +kernel
theorem dX12_orderAt_6 : decode cX12_orderAt 6 = .ok (.aload_n 0, 1) := by decide +kernel
theorem dX12_orderAt_7 : decode cX12_orderAt 7 = .ok (.iconst 0, 1) := by decide +kernel
theorem dX12_orderAt_8 : decode cX12_orderAt 8 = .ok (.invokevirtual 292, 3) := by decide +kernel
theorem dX12_orderAt_11 : decode cX12_orderAt 11 = .ok (.ifCond .ne 6, 3) := by decide +kernel
theorem dX12_orderAt_14 : decode cX12_orderAt 14 = .ok (.bipush (-4), 2) := by decide +kernel
theorem dX12_orderAt_16 : decode cX12_orderAt 16 = .ok (.ireturn, 1) := by decide +kernel
theorem dX12_orderAt_17 : decode cX12_orderAt 17 = .ok (.aload_n 0, 1) := by decide +kernel
theorem dX12_orderAt_18 : decode cX12_orderAt 18 = .ok (.invokevirtual 295, 3) := by decide +kernel
theorem dX12_orderAt_21 : decode cX12_orderAt 21 = .ok (.aload_n 0, 1) := by decide +kernel
theorem dX12_orderAt_22 : decode cX12_orderAt 22 = .ok (.getfield 69, 3) := by decide +kernel
theorem dX12_orderAt_25 : decode cX12_orderAt 25 = .ok (.iconst 0, 1) := by decide +kernel
theorem dX12_orderAt_26 : decode cX12_orderAt 26 = .ok (.baload, 1) := by decide +kernel
theorem dX12_orderAt_27 : decode cX12_orderAt 27 = .ok (.ifCond .eq 14, 3) := by decide +kernel
theorem dX12_orderAt_30 : decode cX12_orderAt 30 = .ok (.iload_n 1, 1) := by decide +kernel
theorem dX12_orderAt_31 : decode cX12_orderAt 31 = .ok (.aload_n 0, 1) := by decide +kernel
theorem dX12_orderAt_32 : decode cX12_orderAt 32 = .ok (.invokevirtual 288, 3) := by decide +kernel
theorem dX12_orderAt_35 : decode cX12_orderAt 35 = .ok (.invokestatic 298, 3) := by decide +kernel
theorem dX12_orderAt_38 : decode cX12_orderAt 38 = .ok (.if_icmp .lt 6, 3) := by decide +kernel
theorem dX12_orderAt_41 : decode cX12_orderAt 41 = .ok (.bipush (-9), 2) := by decide +kernel
theorem dX12_orderAt_43 : decode cX12_orderAt 43 = .ok (.ireturn, 1) := by decide +kernel
theorem dX12_orderAt_44 : decode cX12_orderAt 44 = .ok (.iconst 0, 1) := by decide +kernel
theorem dX12_orderAt_45 : decode cX12_orderAt 45 = .ok (.istore_n 2, 1) := by decide +kernel
theorem dX12_orderAt_46 : decode cX12_orderAt 46 = .ok (.bipush (-9), 2) := by decide +kernel
theorem dX12_orderAt_48 : decode cX12_orderAt 48 = .ok (.istore_n 3, 1) := by decide +kernel
theorem dX12_orderAt_49 : decode cX12_orderAt 49 = .ok (.iconst 0, 1) := by decide +kernel
theorem dX12_orderAt_50 : decode cX12_orderAt 50 = .ok (.istore 4, 2) := by decide +kernel
theorem dX12_orderAt_52 : decode cX12_orderAt 52 = .ok (.iload 4, 2) := by decide +kernel
theorem dX12_orderAt_54 : decode cX12_orderAt 54 = .ok (.iload_n 1, 1) := by decide +kernel
theorem dX12_orderAt_55 : decode cX12_orderAt 55 = .ok (.if_icmp .gt 55, 3) := by decide +kernel
theorem dX12_orderAt_58 : decode cX12_orderAt 58 = .ok (.iconst 0, 1) := by decide +kernel
theorem dX12_orderAt_59 : decode cX12_orderAt 59 = .ok (.istore_n 3, 1) := by decide +kernel
theorem dX12_orderAt_60 : decode cX12_orderAt 60 = .ok (.iload_n 2, 1) := by decide +kernel
theorem dX12_orderAt_61 : decode cX12_orderAt 61 = .ok (.iload_n 3, 1) := by decide +kernel
theorem dX12_orderAt_62 : decode cX12_orderAt 62 = .ok (.invokestatic 216, 3) := by decide +kernel
theorem dX12_orderAt_65 : decode cX12_orderAt 65 = .ok (.ifCond .ne 27, 3) := by decide +kernel
theorem dX12_orderAt_68 : decode cX12_orderAt 68 = .ok (.aload_n 0, 1) := by decide +kernel
theorem dX12_orderAt_69 : decode cX12_orderAt 69 = .ok (.invokevirtual 288, 3) := by decide +kernel
theorem dX12_orderAt_72 : decode cX12_orderAt 72 = .ok (.iload_n 3, 1) := by decide +kernel
theorem dX12_orderAt_73 : decode cX12_orderAt 73 = .ok (.invokestatic 216, 3) := by decide +kernel
theorem dX12_orderAt_76 : decode cX12_orderAt 76 = .ok (.ifCond .eq 16, 3) := by decide +kernel
theorem dX12_orderAt_79 : decode cX12_orderAt 79 = .ok (.aload_n 0, 1) := by decide +kernel
theorem dX12_orderAt_80 : decode cX12_orderAt 80 = .ok (.getfield 69, 3) := by decide +kernel
theorem dX12_orderAt_83 : decode cX12_orderAt 83 = .ok (.iload_n 2, 1) := by decide +kernel
theorem dX12_orderAt_84 : decode cX12_orderAt 84 = .ok (.iconst 1, 1) := by decide +kernel
theorem dX12_orderAt_85 : decode cX12_orderAt 85 = .ok (.iload_n 3, 1) := by decide +kernel
theorem dX12_orderAt_86 : decode cX12_orderAt 86 = .ok (.ishl, 1) := by decide +kernel
theorem dX12_orderAt_87 : decode cX12_orderAt 87 = .ok (.ior, 1) := by decide +kernel
theorem dX12_orderAt_88 : decode cX12_orderAt 88 = .ok (.baload, 1) := by decide +kernel
theorem dX12_orderAt_89 : decode cX12_orderAt 89 = .ok (.ifCond .ne 9, 3) := by decide +kernel
theorem dX12_orderAt_92 : decode cX12_orderAt 92 = .ok (.iinc 3 1, 3) := by decide +kernel
theorem dX12_orderAt_95 : decode cX12_orderAt 95 = .ok (.goto (-35), 3) := by decide +kernel
theorem dX12_orderAt_98 : decode cX12_orderAt 98 = .ok (.iload_n 2, 1) := by decide +kernel
theorem dX12_orderAt_99 : decode cX12_orderAt 99 = .ok (.iconst 1, 1) := by decide +kernel
theorem dX12_orderAt_100 : decode cX12_orderAt 100 = .ok (.iload_n 3, 1) := by decide +kernel
theorem dX12_orderAt_101 : decode cX12_orderAt 101 = .ok (.ishl, 1) := by decide +kernel
theorem dX12_orderAt_102 : decode cX12_orderAt 102 = .ok (.ior, 1) := by decide +kernel
theorem dX12_orderAt_103 : decode cX12_orderAt 103 = .ok (.istore_n 2, 1) := by decide +kernel
theorem dX12_orderAt_104 : decode cX12_orderAt 104 = .ok (.iinc 4 1, 3) := by decide +kernel
theorem dX12_orderAt_107 : decode cX12_orderAt 107 = .ok (.goto (-55), 3) := by decide +kernel
theorem dX12_orderAt_110 : decode cX12_orderAt 110 = .ok (.iload_n 3, 1) := by decide +kernel
theorem dX12_orderAt_111 : decode cX12_orderAt 111 = .ok (.ireturn, 1) := by decide +kernel
theorem dX12_putIn_0 : decode cX12_putIn 0 = .ok (.iload_n 1, 1) := by decide +kernel
theorem dX12_putIn_1 : decode cX12_putIn 1 = .ok (.invokestatic 179, 3) := by decide +kernel
theorem dX12_putIn_4 : decode cX12_putIn 4 = .ok (.ifCond .ne 5, 3) := by decide +kernel
theorem dX12_putIn_7 : decode cX12_putIn 7 = .ok (.iconst (-1), 1) := by decide +kernel
theorem dX12_putIn_8 : decode cX12_putIn 8 = .ok (.ireturn, 1) := by decide +kernel
theorem dX12_putIn_9 : decode cX12_putIn 9 = .ok (.aload_n 0, 1) := by decide +kernel
theorem dX12_putIn_10 : decode cX12_putIn 10 = .ok (.iconst 1, 1) := by decide +kernel
theorem dX12_putIn_11 : decode cX12_putIn 11 = .ok (.iload_n 1, 1) := by decide +kernel
theorem dX12_putIn_12 : decode cX12_putIn 12 = .ok (.ishl, 1) := by decide +kernel
theorem dX12_putIn_13 : decode cX12_putIn 13 = .ok (.invokevirtual 292, 3) := by decide +kernel
theorem dX12_putIn_16 : decode cX12_putIn 16 = .ok (.ifCond .ne 6, 3) := by decide +kernel
theorem dX12_putIn_19 : decode cX12_putIn 19 = .ok (.bipush (-4), 2) := by decide +kernel
theorem dX12_putIn_21 : decode cX12_putIn 21 = .ok (.ireturn, 1) := by decide +kernel
theorem dX12_putIn_22 : decode cX12_putIn 22 = .ok (.aload_n 0, 1) := by decide +kernel
theorem dX12_putIn_23 : decode cX12_putIn 23 = .ok (.getfield 56, 3) := by decide +kernel
theorem dX12_putIn_26 : decode cX12_putIn 26 = .ok (.iload_n 1, 1) := by decide +kernel
theorem dX12_putIn_27 : decode cX12_putIn 27 = .ok (.aload_n 0, 1) := by decide +kernel
theorem dX12_putIn_28 : decode cX12_putIn 28 = .ok (.getfield 59, 3) := by decide +kernel
theorem dX12_putIn_31 : decode cX12_putIn 31 = .ok (.iload_n 1, 1) := by decide +kernel
theorem dX12_putIn_32 : decode cX12_putIn 32 = .ok (.iaload, 1) := by decide +kernel
theorem dX12_putIn_33 : decode cX12_putIn 33 = .ok (.iastore, 1) := by decide +kernel
theorem dX12_putIn_34 : decode cX12_putIn 34 = .ok (.iconst 1, 1) := by decide +kernel
theorem dX12_putIn_35 : decode cX12_putIn 35 = .ok (.ireturn, 1) := by decide +kernel
theorem dX12_service_0 : decode cX12_service 0 = .ok (.iload_n 1, 1) := by decide +kernel
theorem dX12_service_1 : decode cX12_service 1 = .ok (.invokestatic 179, 3) := by decide +kernel
theorem dX12_service_4 : decode cX12_service 4 = .ok (.ifCond .eq 33, 3) := by decide +kernel
theorem dX12_service_7 : decode cX12_service 7 = .ok (.iload_n 2, 1) := by decide +kernel
theorem dX12_service_8 : decode cX12_service 8 = .ok (.iconst 1, 1) := by decide +kernel
theorem dX12_service_9 : decode cX12_service 9 = .ok (.iconst 3, 1) := by decide +kernel
theorem dX12_service_10 : decode cX12_service 10 = .ok (.invokestatic 175, 3) := by decide +kernel
theorem dX12_service_13 : decode cX12_service 13 = .ok (.ifCond .eq 24, 3) := by decide +kernel
theorem dX12_service_16 : decode cX12_service 16 = .ok (.iload_n 3, 1) := by decide +kernel
theorem dX12_service_17 : decode cX12_service 17 = .ok (.iconst 0, 1) := by decide +kernel
theorem dX12_service_18 : decode cX12_service 18 = .ok (.bipush 9, 2) := by decide +kernel
theorem dX12_service_20 : decode cX12_service 20 = .ok (.invokestatic 175, 3) := by decide +kernel
theorem dX12_service_23 : decode cX12_service 23 = .ok (.ifCond .eq 14, 3) := by decide +kernel
theorem dX12_service_26 : decode cX12_service 26 = .ok (.iload 4, 2) := by decide +kernel
theorem dX12_service_28 : decode cX12_service 28 = .ok (.iconst 0, 1) := by decide +kernel
theorem dX12_service_29 : decode cX12_service 29 = .ok (.bipush 99, 2) := by decide +kernel
theorem dX12_service_31 : decode cX12_service 31 = .ok (.invokestatic 175, 3) := by decide +kernel
theorem dX12_service_34 : decode cX12_service 34 = .ok (.ifCond .ne 5, 3) := by decide +kernel
theorem dX12_service_37 : decode cX12_service 37 = .ok (.iconst (-1), 1) := by decide +kernel
theorem dX12_service_38 : decode cX12_service 38 = .ok (.ireturn, 1) := by decide +kernel
theorem dX12_service_39 : decode cX12_service 39 = .ok (.aload_n 0, 1) := by decide +kernel
theorem dX12_service_40 : decode cX12_service 40 = .ok (.getfield 72, 3) := by decide +kernel
theorem dX12_service_43 : decode cX12_service 43 = .ok (.iload_n 1, 1) := by decide +kernel
theorem dX12_service_44 : decode cX12_service 44 = .ok (.iload_n 2, 1) := by decide +kernel
theorem dX12_service_45 : decode cX12_service 45 = .ok (.iastore, 1) := by decide +kernel
theorem dX12_service_46 : decode cX12_service 46 = .ok (.aload_n 0, 1) := by decide +kernel
theorem dX12_service_47 : decode cX12_service 47 = .ok (.getfield 75, 3) := by decide +kernel
theorem dX12_service_50 : decode cX12_service 50 = .ok (.iload_n 1, 1) := by decide +kernel
theorem dX12_service_51 : decode cX12_service 51 = .ok (.iload_n 3, 1) := by decide +kernel
theorem dX12_service_52 : decode cX12_service 52 = .ok (.iastore, 1) := by decide +kernel
theorem dX12_service_53 : decode cX12_service 53 = .ok (.aload_n 0, 1) := by decide +kernel
theorem dX12_service_54 : decode cX12_service 54 = .ok (.getfield 78, 3) := by decide +kernel
theorem dX12_service_57 : decode cX12_service 57 = .ok (.iload_n 1, 1) := by decide +kernel
theorem dX12_service_58 : decode cX12_service 58 = .ok (.iload 4, 2) := by decide +kernel
theorem dX12_service_60 : decode cX12_service 60 = .ok (.iastore, 1) := by decide +kernel
theorem dX12_service_61 : decode cX12_service 61 = .ok (.iconst 1, 1) := by decide +kernel
theorem dX12_service_62 : decode cX12_service 62 = .ok (.ireturn, 1) := by decide +kernel
theorem dX12_send_0 : decode cX12_send 0 = .ok (.aload_n 0, 1) := by decide +kernel
theorem dX12_send_1 : decode cX12_send 1 = .ok (.getfield 138, 3) := by decide +kernel
theorem dX12_send_4 : decode cX12_send 4 = .ok (.aload_n 0, 1) := by decide +kernel
theorem dX12_send_5 : decode cX12_send 5 = .ok (.getfield 301, 3) := by decide +kernel
theorem dX12_send_8 : decode cX12_send 8 = .ok (.iload_n 1, 1) := by decide +kernel
theorem dX12_send_9 : decode cX12_send 9 = .ok (.iastore, 1) := by decide +kernel
theorem dX12_send_10 : decode cX12_send 10 = .ok (.aload_n 0, 1) := by decide +kernel
theorem dX12_send_11 : decode cX12_send 11 = .ok (.getfield 141, 3) := by decide +kernel
theorem dX12_send_14 : decode cX12_send 14 = .ok (.aload_n 0, 1) := by decide +kernel
theorem dX12_send_15 : decode cX12_send 15 = .ok (.getfield 301, 3) := by decide +kernel
theorem dX12_send_18 : decode cX12_send 18 = .ok (.iload_n 2, 1) := by decide +kernel
theorem dX12_send_19 : decode cX12_send 19 = .ok (.iastore, 1) := by decide +kernel
theorem dX12_send_20 : decode cX12_send 20 = .ok (.aload_n 0, 1) := by decide +kernel
theorem dX12_send_21 : decode cX12_send 21 = .ok (.getfield 144, 3) := by decide +kernel
theorem dX12_send_24 : decode cX12_send 24 = .ok (.aload_n 0, 1) := by decide +kernel
theorem dX12_send_25 : decode cX12_send 25 = .ok (.getfield 301, 3) := by decide +kernel
theorem dX12_send_28 : decode cX12_send 28 = .ok (.iload_n 3, 1) := by decide +kernel
theorem dX12_send_29 : decode cX12_send 29 = .ok (.iastore, 1) := by decide +kernel
theorem dX12_send_30 : decode cX12_send 30 = .ok (.aload_n 0, 1) := by decide +kernel
theorem dX12_send_31 : decode cX12_send 31 = .ok (.getfield 147, 3) := by decide +kernel
theorem dX12_send_34 : decode cX12_send 34 = .ok (.aload_n 0, 1) := by decide +kernel
theorem dX12_send_35 : decode cX12_send 35 = .ok (.getfield 301, 3) := by decide +kernel
theorem dX12_send_38 : decode cX12_send 38 = .ok (.aload_n 0, 1) := by decide +kernel
theorem dX12_send_39 : decode cX12_send 39 = .ok (.getfield 304, 3) := by decide +kernel
theorem dX12_send_42 : decode cX12_send 42 = .ok (.iastore, 1) := by decide +kernel
theorem dX12_send_43 : decode cX12_send 43 = .ok (.aload_n 0, 1) := by decide +kernel
theorem dX12_send_44 : decode cX12_send 44 = .ok (.getfield 150, 3) := by decide +kernel
theorem dX12_send_47 : decode cX12_send 47 = .ok (.aload_n 0, 1) := by decide +kernel
theorem dX12_send_48 : decode cX12_send 48 = .ok (.getfield 301, 3) := by decide +kernel
theorem dX12_send_51 : decode cX12_send 51 = .ok (.iconst 0, 1) := by decide +kernel
theorem dX12_send_52 : decode cX12_send 52 = .ok (.iastore, 1) := by decide +kernel
theorem dX12_send_53 : decode cX12_send 53 = .ok (.aload_n 0, 1) := by decide +kernel
theorem dX12_send_54 : decode cX12_send 54 = .ok (.getfield 153, 3) := by decide +kernel
theorem dX12_send_57 : decode cX12_send 57 = .ok (.aload_n 0, 1) := by decide +kernel
theorem dX12_send_58 : decode cX12_send 58 = .ok (.getfield 301, 3) := by decide +kernel
theorem dX12_send_61 : decode cX12_send 61 = .ok (.iload 4, 2) := by decide +kernel
theorem dX12_send_63 : decode cX12_send 63 = .ok (.iastore, 1) := by decide +kernel
theorem dX12_send_64 : decode cX12_send 64 = .ok (.aload_n 0, 1) := by decide +kernel
theorem dX12_send_65 : decode cX12_send 65 = .ok (.getfield 156, 3) := by decide +kernel
theorem dX12_send_68 : decode cX12_send 68 = .ok (.aload_n 0, 1) := by decide +kernel
theorem dX12_send_69 : decode cX12_send 69 = .ok (.getfield 301, 3) := by decide +kernel
theorem dX12_send_72 : decode cX12_send 72 = .ok (.iload 5, 2) := by decide +kernel
theorem dX12_send_74 : decode cX12_send 74 = .ok (.iastore, 1) := by decide +kernel
theorem dX12_send_75 : decode cX12_send 75 = .ok (.aload_n 0, 1) := by decide +kernel
theorem dX12_send_76 : decode cX12_send 76 = .ok (.dup, 1) := by decide +kernel
theorem dX12_send_77 : decode cX12_send 77 = .ok (.getfield 301, 3) := by decide +kernel
theorem dX12_send_80 : decode cX12_send 80 = .ok (.iconst 1, 1) := by decide +kernel
theorem dX12_send_81 : decode cX12_send 81 = .ok (.iadd, 1) := by decide +kernel
theorem dX12_send_82 : decode cX12_send 82 = .ok (.putfield 301, 3) := by decide +kernel
theorem dX12_send_85 : decode cX12_send 85 = .ok (.aload_n 0, 1) := by decide +kernel
theorem dX12_send_86 : decode cX12_send 86 = .ok (.getfield 301, 3) := by decide +kernel
theorem dX12_send_89 : decode cX12_send 89 = .ok (.iconst 1, 1) := by decide +kernel
theorem dX12_send_90 : decode cX12_send 90 = .ok (.isub, 1) := by decide +kernel
theorem dX12_send_91 : decode cX12_send 91 = .ok (.ireturn, 1) := by decide +kernel
theorem dX12_sendBack_0 : decode cX12_sendBack 0 = .ok (.aload_n 0, 1) := by decide +kernel
theorem dX12_sendBack_1 : decode cX12_sendBack 1 = .ok (.iload_n 2, 1) := by decide +kernel
theorem dX12_sendBack_2 : decode cX12_sendBack 2 = .ok (.aload_n 0, 1) := by decide +kernel
theorem dX12_sendBack_3 : decode cX12_sendBack 3 = .ok (.getfield 84, 3) := by decide +kernel
theorem dX12_sendBack_6 : decode cX12_sendBack 6 = .ok (.iload_n 1, 1) := by decide +kernel
theorem dX12_sendBack_7 : decode cX12_sendBack 7 = .ok (.iaload, 1) := by decide +kernel
theorem dX12_sendBack_8 : decode cX12_sendBack 8 = .ok (.aload_n 0, 1) := by decide +kernel
theorem dX12_sendBack_9 : decode cX12_sendBack 9 = .ok (.getfield 81, 3) := by decide +kernel
theorem dX12_sendBack_12 : decode cX12_sendBack 12 = .ok (.iload_n 1, 1) := by decide +kernel
theorem dX12_sendBack_13 : decode cX12_sendBack 13 = .ok (.iaload, 1) := by decide +kernel
theorem dX12_sendBack_14 : decode cX12_sendBack 14 = .ok (.iload_n 1, 1) := by decide +kernel
theorem dX12_sendBack_15 : decode cX12_sendBack 15 = .ok (.iload_n 3, 1) := by decide +kernel
theorem dX12_sendBack_16 : decode cX12_sendBack 16 = .ok (.invokevirtual 307, 3) := by decide +kernel
theorem dX12_sendBack_19 : decode cX12_sendBack 19 = .ok (.ireturn, 1) := by decide +kernel
theorem dX12_sendOut_0 : decode cX12_sendOut 0 = .ok (.aload_n 0, 1) := by decide +kernel
theorem dX12_sendOut_1 : decode cX12_sendOut 1 = .ok (.iload_n 2, 1) := by decide +kernel
theorem dX12_sendOut_2 : decode cX12_sendOut 2 = .ok (.aload_n 0, 1) := by decide +kernel
theorem dX12_sendOut_3 : decode cX12_sendOut 3 = .ok (.getfield 81, 3) := by decide +kernel
theorem dX12_sendOut_6 : decode cX12_sendOut 6 = .ok (.iload_n 1, 1) := by decide +kernel
theorem dX12_sendOut_7 : decode cX12_sendOut 7 = .ok (.iaload, 1) := by decide +kernel
theorem dX12_sendOut_8 : decode cX12_sendOut 8 = .ok (.aload_n 0, 1) := by decide +kernel
theorem dX12_sendOut_9 : decode cX12_sendOut 9 = .ok (.getfield 84, 3) := by decide +kernel
theorem dX12_sendOut_12 : decode cX12_sendOut 12 = .ok (.iload_n 1, 1) := by decide +kernel
theorem dX12_sendOut_13 : decode cX12_sendOut 13 = .ok (.iaload, 1) := by decide +kernel
theorem dX12_sendOut_14 : decode cX12_sendOut 14 = .ok (.iload_n 1, 1) := by decide +kernel
theorem dX12_sendOut_15 : decode cX12_sendOut 15 = .ok (.iload_n 3, 1) := by decide +kernel
theorem dX12_sendOut_16 : decode cX12_sendOut 16 = .ok (.invokevirtual 307, 3) := by decide +kernel
theorem dX12_sendOut_19 : decode cX12_sendOut 19 = .ok (.ireturn, 1) := by decide +kernel
theorem dX12_call_0 : decode cX12_call 0 = .ok (.iload_n 1, 1) := by decide +kernel
theorem dX12_call_1 : decode cX12_call 1 = .ok (.invokestatic 179, 3) := by decide +kernel
theorem dX12_call_4 : decode cX12_call 4 = .ok (.ifCond .eq 56, 3) := by decide +kernel
theorem dX12_call_7 : decode cX12_call 7 = .ok (.iload_n 2, 1) := by decide +kernel
theorem dX12_call_8 : decode cX12_call 8 = .ok (.invokestatic 179, 3) := by decide +kernel
theorem dX12_call_11 : decode cX12_call 11 = .ok (.ifCond .eq 49, 3) := by decide +kernel
theorem dX12_call_14 : decode cX12_call 14 = .ok (.iload_n 1, 1) := by decide +kernel
theorem dX12_call_15 : decode cX12_call 15 = .ok (.iload_n 2, 1) := by decide +kernel
theorem dX12_call_16 : decode cX12_call 16 = .ok (.if_icmp .eq 44, 3) := by decide +kernel
theorem dX12_call_19 : decode cX12_call 19 = .ok (.iload_n 3, 1) := by decide +kernel
theorem dX12_call_20 : decode cX12_call 20 = .ok (.iconst 0, 1) := by decide +kernel
theorem dX12_call_21 : decode cX12_call 21 = .ok (.iconst 2, 1) := by decide +kernel
theorem dX12_call_22 : decode cX12_call 22 = .ok (.invokestatic 175, 3) := by decide +kernel
theorem dX12_call_25 : decode cX12_call 25 = .ok (.ifCond .eq 35, 3) := by decide +kernel
theorem dX12_call_28 : decode cX12_call 28 = .ok (.iload 4, 2) := by decide +kernel
theorem dX12_call_30 : decode cX12_call 30 = .ok (.iconst 1, 1) := by decide +kernel
theorem dX12_call_31 : decode cX12_call 31 = .ok (.bipush 9, 2) := by decide +kernel
theorem dX12_call_33 : decode cX12_call 33 = .ok (.invokestatic 175, 3) := by decide +kernel
theorem dX12_call_36 : decode cX12_call 36 = .ok (.ifCond .eq 24, 3) := by decide +kernel
theorem dX12_call_39 : decode cX12_call 39 = .ok (.iload 5, 2) := by decide +kernel
theorem dX12_call_41 : decode cX12_call 41 = .ok (.iconst 1, 1) := by decide +kernel
theorem dX12_call_42 : decode cX12_call 42 = .ok (.bipush 99, 2) := by decide +kernel
theorem dX12_call_44 : decode cX12_call 44 = .ok (.invokestatic 175, 3) := by decide +kernel
theorem dX12_call_47 : decode cX12_call 47 = .ok (.ifCond .eq 13, 3) := by decide +kernel
theorem dX12_call_50 : decode cX12_call 50 = .ok (.iload 6, 2) := by decide +kernel
theorem dX12_call_52 : decode cX12_call 52 = .ok (.iconst 0, 1) := by decide +kernel
theorem dX12_call_53 : decode cX12_call 53 = .ok (.iconst 5, 1) := by decide +kernel
theorem dX12_call_54 : decode cX12_call 54 = .ok (.invokestatic 175, 3) := by decide +kernel
theorem dX12_call_57 : decode cX12_call 57 = .ok (.ifCond .ne 5, 3) := by decide +kernel
theorem dX12_call_60 : decode cX12_call 60 = .ok (.iconst (-1), 1) := by decide +kernel
theorem dX12_call_61 : decode cX12_call 61 = .ok (.ireturn, 1) := by decide +kernel
theorem dX12_call_62 : decode cX12_call 62 = .ok (.aload_n 0, 1) := by decide +kernel
theorem dX12_call_63 : decode cX12_call 63 = .ok (.getfield 311, 3) := by decide +kernel
theorem dX12_call_66 : decode cX12_call 66 = .ok (.bipush 30, 2) := by decide +kernel
theorem dX12_call_68 : decode cX12_call 68 = .ok (.if_icmp .ne 6, 3) := by decide +kernel
theorem dX12_call_71 : decode cX12_call 71 = .ok (.bipush (-2), 2) := by decide +kernel
theorem dX12_call_73 : decode cX12_call 73 = .ok (.ireturn, 1) := by decide +kernel
theorem dX12_call_74 : decode cX12_call 74 = .ok (.aload_n 0, 1) := by decide +kernel
theorem dX12_call_75 : decode cX12_call 75 = .ok (.getfield 304, 3) := by decide +kernel
theorem dX12_call_78 : decode cX12_call 78 = .ok (.iload 5, 2) := by decide +kernel
theorem dX12_call_80 : decode cX12_call 80 = .ok (.iadd, 1) := by decide +kernel
theorem dX12_call_81 : decode cX12_call 81 = .ok (.sipush 9999, 3) := by decide +kernel
theorem dX12_call_84 : decode cX12_call 84 = .ok (.if_icmp .le 6, 3) := by decide +kernel
theorem dX12_call_87 : decode cX12_call 87 = .ok (.bipush (-4), 2) := by decide +kernel
theorem dX12_call_89 : decode cX12_call 89 = .ok (.ireturn, 1) := by decide +kernel
theorem dX12_call_90 : decode cX12_call 90 = .ok (.aload_n 0, 1) := by decide +kernel
theorem dX12_call_91 : decode cX12_call 91 = .ok (.getfield 311, 3) := by decide +kernel
theorem dX12_call_94 : decode cX12_call 94 = .ok (.istore 7, 2) := by decide +kernel
theorem dX12_call_96 : decode cX12_call 96 = .ok (.aload_n 0, 1) := by decide +kernel
theorem dX12_call_97 : decode cX12_call 97 = .ok (.dup, 1) := by decide +kernel
theorem dX12_call_98 : decode cX12_call 98 = .ok (.getfield 311, 3) := by decide +kernel
theorem dX12_call_101 : decode cX12_call 101 = .ok (.iconst 1, 1) := by decide +kernel
theorem dX12_call_102 : decode cX12_call 102 = .ok (.iadd, 1) := by decide +kernel
theorem dX12_call_103 : decode cX12_call 103 = .ok (.putfield 311, 3) := by decide +kernel
theorem dX12_call_106 : decode cX12_call 106 = .ok (.aload_n 0, 1) := by decide +kernel
theorem dX12_call_107 : decode cX12_call 107 = .ok (.getfield 81, 3) := by decide +kernel
theorem dX12_call_110 : decode cX12_call 110 = .ok (.iload 7, 2) := by decide +kernel
theorem dX12_call_112 : decode cX12_call 112 = .ok (.iload_n 1, 1) := by decide +kernel
theorem dX12_call_113 : decode cX12_call 113 = .ok (.iastore, 1) := by decide +kernel
theorem dX12_call_114 : decode cX12_call 114 = .ok (.aload_n 0, 1) := by decide +kernel
theorem dX12_call_115 : decode cX12_call 115 = .ok (.getfield 84, 3) := by decide +kernel
theorem dX12_call_118 : decode cX12_call 118 = .ok (.iload 7, 2) := by decide +kernel
theorem dX12_call_120 : decode cX12_call 120 = .ok (.iload_n 2, 1) := by decide +kernel
theorem dX12_call_121 : decode cX12_call 121 = .ok (.iastore, 1) := by decide +kernel
theorem dX12_call_122 : decode cX12_call 122 = .ok (.aload_n 0, 1) := by decide +kernel
theorem dX12_call_123 : decode cX12_call 123 = .ok (.getfield 87, 3) := by decide +kernel
theorem dX12_call_126 : decode cX12_call 126 = .ok (.iload 7, 2) := by decide +kernel
theorem dX12_call_128 : decode cX12_call 128 = .ok (.iload_n 3, 1) := by decide +kernel
theorem dX12_call_129 : decode cX12_call 129 = .ok (.iastore, 1) := by decide +kernel
theorem dX12_call_130 : decode cX12_call 130 = .ok (.aload_n 0, 1) := by decide +kernel
theorem dX12_call_131 : decode cX12_call 131 = .ok (.getfield 90, 3) := by decide +kernel
theorem dX12_call_134 : decode cX12_call 134 = .ok (.iload 7, 2) := by decide +kernel
theorem dX12_call_136 : decode cX12_call 136 = .ok (.iload 4, 2) := by decide +kernel
theorem dX12_call_138 : decode cX12_call 138 = .ok (.iastore, 1) := by decide +kernel
theorem dX12_call_139 : decode cX12_call 139 = .ok (.aload_n 0, 1) := by decide +kernel
theorem dX12_call_140 : decode cX12_call 140 = .ok (.getfield 93, 3) := by decide +kernel
theorem dX12_call_143 : decode cX12_call 143 = .ok (.iload 7, 2) := by decide +kernel
theorem dX12_call_145 : decode cX12_call 145 = .ok (.aload_n 0, 1) := by decide +kernel
theorem dX12_call_146 : decode cX12_call 146 = .ok (.getfield 304, 3) := by decide +kernel
theorem dX12_call_149 : decode cX12_call 149 = .ok (.iload 5, 2) := by decide +kernel
theorem dX12_call_151 : decode cX12_call 151 = .ok (.iadd, 1) := by decide +kernel
theorem dX12_call_152 : decode cX12_call 152 = .ok (.iastore, 1) := by decide +kernel
theorem dX12_call_153 : decode cX12_call 153 = .ok (.aload_n 0, 1) := by decide +kernel
theorem dX12_call_154 : decode cX12_call 154 = .ok (.getfield 96, 3) := by decide +kernel
theorem dX12_call_157 : decode cX12_call 157 = .ok (.iload 7, 2) := by decide +kernel
theorem dX12_call_159 : decode cX12_call 159 = .ok (.iload 6, 2) := by decide +kernel
theorem dX12_call_161 : decode cX12_call 161 = .ok (.iastore, 1) := by decide +kernel
theorem dX12_call_162 : decode cX12_call 162 = .ok (.aload_n 0, 1) := by decide +kernel
theorem dX12_call_163 : decode cX12_call 163 = .ok (.getfield 99, 3) := by decide +kernel
theorem dX12_call_166 : decode cX12_call 166 = .ok (.iload 7, 2) := by decide +kernel
theorem dX12_call_168 : decode cX12_call 168 = .ok (.iconst 0, 1) := by decide +kernel
theorem dX12_call_169 : decode cX12_call 169 = .ok (.iastore, 1) := by decide +kernel
theorem dX12_call_170 : decode cX12_call 170 = .ok (.aload_n 0, 1) := by decide +kernel
theorem dX12_call_171 : decode cX12_call 171 = .ok (.getfield 108, 3) := by decide +kernel
theorem dX12_call_174 : decode cX12_call 174 = .ok (.iload 7, 2) := by decide +kernel
theorem dX12_call_176 : decode cX12_call 176 = .ok (.aload_n 0, 1) := by decide +kernel
theorem dX12_call_177 : decode cX12_call 177 = .ok (.getfield 304, 3) := by decide +kernel
theorem dX12_call_180 : decode cX12_call 180 = .ok (.iastore, 1) := by decide +kernel
theorem dX12_call_181 : decode cX12_call 181 = .ok (.aload_n 0, 1) := by decide +kernel
theorem dX12_call_182 : decode cX12_call 182 = .ok (.getfield 111, 3) := by decide +kernel
theorem dX12_call_185 : decode cX12_call 185 = .ok (.iload 7, 2) := by decide +kernel
theorem dX12_call_187 : decode cX12_call 187 = .ok (.bipush (-9), 2) := by decide +kernel
theorem dX12_call_189 : decode cX12_call 189 = .ok (.iastore, 1) := by decide +kernel
theorem dX12_call_190 : decode cX12_call 190 = .ok (.aload_n 0, 1) := by decide +kernel
theorem dX12_call_191 : decode cX12_call 191 = .ok (.getfield 123, 3) := by decide +kernel
theorem dX12_call_194 : decode cX12_call 194 = .ok (.iload 7, 2) := by decide +kernel
theorem dX12_call_196 : decode cX12_call 196 = .ok (.bipush (-9), 2) := by decide +kernel
theorem dX12_call_198 : decode cX12_call 198 = .ok (.iastore, 1) := by decide +kernel
theorem dX12_call_199 : decode cX12_call 199 = .ok (.aload_n 0, 1) := by decide +kernel
theorem dX12_call_200 : decode cX12_call 200 = .ok (.getfield 114, 3) := by decide +kernel
theorem dX12_call_203 : decode cX12_call 203 = .ok (.iload 7, 2) := by decide +kernel
theorem dX12_call_205 : decode cX12_call 205 = .ok (.aload_n 0, 1) := by decide +kernel
theorem dX12_call_206 : decode cX12_call 206 = .ok (.getfield 304, 3) := by decide +kernel
theorem dX12_call_209 : decode cX12_call 209 = .ok (.iastore, 1) := by decide +kernel
theorem dX12_call_210 : decode cX12_call 210 = .ok (.aload_n 0, 1) := by decide +kernel
theorem dX12_call_211 : decode cX12_call 211 = .ok (.iload 7, 2) := by decide +kernel
theorem dX12_call_213 : decode cX12_call 213 = .ok (.iconst 1, 1) := by decide +kernel
theorem dX12_call_214 : decode cX12_call 214 = .ok (.iconst 0, 1) := by decide +kernel
theorem dX12_call_215 : decode cX12_call 215 = .ok (.invokevirtual 314, 3) := by decide +kernel
theorem dX12_call_218 : decode cX12_call 218 = .ok (.pop, 1) := by decide +kernel
theorem dX12_call_219 : decode cX12_call 219 = .ok (.iload 7, 2) := by decide +kernel
theorem dX12_call_221 : decode cX12_call 221 = .ok (.ireturn, 1) := by decide +kernel
theorem dX12_line_0 : decode cX12_line 0 = .ok (.iload_n 0, 1) := by decide +kernel
theorem dX12_line_1 : decode cX12_line 1 = .ok (.iload_n 1, 1) := by decide +kernel
theorem dX12_line_2 : decode cX12_line 2 = .ok (.if_icmp .ge 12, 3) := by decide +kernel
theorem dX12_line_5 : decode cX12_line 5 = .ok (.bipush 6, 2) := by decide +kernel
theorem dX12_line_7 : decode cX12_line 7 = .ok (.iload_n 0, 1) := by decide +kernel
theorem dX12_line_8 : decode cX12_line 8 = .ok (.imul, 1) := by decide +kernel
theorem dX12_line_9 : decode cX12_line 9 = .ok (.iload_n 1, 1) := by decide +kernel
theorem dX12_line_10 : decode cX12_line 10 = .ok (.iadd, 1) := by decide +kernel
theorem dX12_line_11 : decode cX12_line 11 = .ok (.goto 9, 3) := by decide +kernel
theorem dX12_line_14 : decode cX12_line 14 = .ok (.bipush 6, 2) := by decide +kernel
theorem dX12_line_16 : decode cX12_line 16 = .ok (.iload_n 1, 1) := by decide +kernel
theorem dX12_line_17 : decode cX12_line 17 = .ok (.imul, 1) := by decide +kernel
theorem dX12_line_18 : decode cX12_line 18 = .ok (.iload_n 0, 1) := by decide +kernel
theorem dX12_line_19 : decode cX12_line 19 = .ok (.iadd, 1) := by decide +kernel
theorem dX12_line_20 : decode cX12_line 20 = .ok (.ireturn, 1) := by decide +kernel
theorem dX12_isTick_0 : decode cX12_isTick 0 = .ok (.iload_n 0, 1) := by decide +kernel
theorem dX12_isTick_1 : decode cX12_isTick 1 = .ok (.iconst 0, 1) := by decide +kernel
theorem dX12_isTick_2 : decode cX12_isTick 2 = .ok (.sipush 9999, 3) := by decide +kernel
theorem dX12_isTick_5 : decode cX12_isTick 5 = .ok (.invokestatic 175, 3) := by decide +kernel
theorem dX12_isTick_8 : decode cX12_isTick 8 = .ok (.ireturn, 1) := by decide +kernel
theorem dX12_breaks_0 : decode cX12_breaks 0 = .ok (.iload_n 1, 1) := by decide +kernel
theorem dX12_breaks_1 : decode cX12_breaks 1 = .ok (.invokestatic 179, 3) := by decide +kernel
theorem dX12_breaks_4 : decode cX12_breaks 4 = .ok (.ifCond .eq 36, 3) := by decide +kernel
theorem dX12_breaks_7 : decode cX12_breaks 7 = .ok (.iload_n 2, 1) := by decide +kernel
theorem dX12_breaks_8 : decode cX12_breaks 8 = .ok (.invokestatic 179, 3) := by decide +kernel
theorem dX12_breaks_11 : decode cX12_breaks 11 = .ok (.ifCond .eq 29, 3) := by decide +kernel
theorem dX12_breaks_14 : decode cX12_breaks 14 = .ok (.iload_n 1, 1) := by decide +kernel
theorem dX12_breaks_15 : decode cX12_breaks 15 = .ok (.iload_n 2, 1) := by decide +kernel
theorem dX12_breaks_16 : decode cX12_breaks 16 = .ok (.if_icmp .eq 24, 3) := by decide +kernel
theorem dX12_breaks_19 : decode cX12_breaks 19 = .ok (.iload_n 3, 1) := by decide +kernel
theorem dX12_breaks_20 : decode cX12_breaks 20 = .ok (.invokestatic 317, 3) := by decide +kernel
theorem dX12_breaks_23 : decode cX12_breaks 23 = .ok (.ifCond .eq 17, 3) := by decide +kernel
theorem dX12_breaks_26 : decode cX12_breaks 26 = .ok (.iload 4, 2) := by decide +kernel
theorem dX12_breaks_28 : decode cX12_breaks 28 = .ok (.invokestatic 317, 3) := by decide +kernel
theorem dX12_breaks_31 : decode cX12_breaks 31 = .ok (.ifCond .eq 9, 3) := by decide +kernel
theorem dX12_breaks_34 : decode cX12_breaks 34 = .ok (.iload 4, 2) := by decide +kernel
theorem dX12_breaks_36 : decode cX12_breaks 36 = .ok (.iload_n 3, 1) := by decide +kernel
theorem dX12_breaks_37 : decode cX12_breaks 37 = .ok (.if_icmp .ge 5, 3) := by decide +kernel
theorem dX12_breaks_40 : decode cX12_breaks 40 = .ok (.iconst (-1), 1) := by decide +kernel
theorem dX12_breaks_41 : decode cX12_breaks 41 = .ok (.ireturn, 1) := by decide +kernel
theorem dX12_breaks_42 : decode cX12_breaks 42 = .ok (.aload_n 0, 1) := by decide +kernel
theorem dX12_breaks_43 : decode cX12_breaks 43 = .ok (.getfield 320, 3) := by decide +kernel
theorem dX12_breaks_46 : decode cX12_breaks 46 = .ok (.bipush 20, 2) := by decide +kernel
theorem dX12_breaks_48 : decode cX12_breaks 48 = .ok (.if_icmp .ne 6, 3) := by decide +kernel
theorem dX12_breaks_51 : decode cX12_breaks 51 = .ok (.bipush (-2), 2) := by decide +kernel
theorem dX12_breaks_53 : decode cX12_breaks 53 = .ok (.ireturn, 1) := by decide +kernel
theorem dX12_breaks_54 : decode cX12_breaks 54 = .ok (.aload_n 0, 1) := by decide +kernel
theorem dX12_breaks_55 : decode cX12_breaks 55 = .ok (.getfield 159, 3) := by decide +kernel
theorem dX12_breaks_58 : decode cX12_breaks 58 = .ok (.aload_n 0, 1) := by decide +kernel
theorem dX12_breaks_59 : decode cX12_breaks 59 = .ok (.getfield 320, 3) := by decide +kernel
theorem dX12_breaks_62 : decode cX12_breaks 62 = .ok (.iload_n 1, 1) := by decide +kernel
theorem dX12_breaks_63 : decode cX12_breaks 63 = .ok (.iload_n 2, 1) := by decide +kernel
theorem dX12_breaks_64 : decode cX12_breaks 64 = .ok (.invokestatic 323, 3) := by decide +kernel
theorem dX12_breaks_67 : decode cX12_breaks 67 = .ok (.iastore, 1) := by decide +kernel
theorem dX12_breaks_68 : decode cX12_breaks 68 = .ok (.aload_n 0, 1) := by decide +kernel
theorem dX12_breaks_69 : decode cX12_breaks 69 = .ok (.getfield 162, 3) := by decide +kernel
theorem dX12_breaks_72 : decode cX12_breaks 72 = .ok (.aload_n 0, 1) := by decide +kernel
theorem dX12_breaks_73 : decode cX12_breaks 73 = .ok (.getfield 320, 3) := by decide +kernel
theorem dX12_breaks_76 : decode cX12_breaks 76 = .ok (.iload_n 3, 1) := by decide +kernel
theorem dX12_breaks_77 : decode cX12_breaks 77 = .ok (.iastore, 1) := by decide +kernel
theorem dX12_breaks_78 : decode cX12_breaks 78 = .ok (.aload_n 0, 1) := by decide +kernel
theorem dX12_breaks_79 : decode cX12_breaks 79 = .ok (.getfield 165, 3) := by decide +kernel
theorem dX12_breaks_82 : decode cX12_breaks 82 = .ok (.aload_n 0, 1) := by decide +kernel
theorem dX12_breaks_83 : decode cX12_breaks 83 = .ok (.getfield 320, 3) := by decide +kernel
theorem dX12_breaks_86 : decode cX12_breaks 86 = .ok (.iload 4, 2) := by decide +kernel
theorem dX12_breaks_88 : decode cX12_breaks 88 = .ok (.iastore, 1) := by decide +kernel
theorem dX12_breaks_89 : decode cX12_breaks 89 = .ok (.aload_n 0, 1) := by decide +kernel
theorem dX12_breaks_90 : decode cX12_breaks 90 = .ok (.dup, 1) := by decide +kernel
theorem dX12_breaks_91 : decode cX12_breaks 91 = .ok (.getfield 320, 3) := by decide +kernel
theorem dX12_breaks_94 : decode cX12_breaks 94 = .ok (.iconst 1, 1) := by decide +kernel
theorem dX12_breaks_95 : decode cX12_breaks 95 = .ok (.iadd, 1) := by decide +kernel
theorem dX12_breaks_96 : decode cX12_breaks 96 = .ok (.putfield 320, 3) := by decide +kernel
theorem dX12_breaks_99 : decode cX12_breaks 99 = .ok (.aload_n 0, 1) := by decide +kernel
theorem dX12_breaks_100 : decode cX12_breaks 100 = .ok (.getfield 320, 3) := by decide +kernel
theorem dX12_breaks_103 : decode cX12_breaks 103 = .ok (.ireturn, 1) := by decide +kernel
theorem dX12_isBroken_0 : decode cX12_isBroken 0 = .ok (.iconst 0, 1) := by decide +kernel
theorem dX12_isBroken_1 : decode cX12_isBroken 1 = .ok (.istore_n 3, 1) := by decide +kernel
theorem dX12_isBroken_2 : decode cX12_isBroken 2 = .ok (.iconst 0, 1) := by decide +kernel
theorem dX12_isBroken_3 : decode cX12_isBroken 3 = .ok (.istore 4, 2) := by decide +kernel
theorem dX12_isBroken_5 : decode cX12_isBroken 5 = .ok (.iload 4, 2) := by decide +kernel
theorem dX12_isBroken_7 : decode cX12_isBroken 7 = .ok (.aload_n 0, 1) := by decide +kernel
theorem dX12_isBroken_8 : decode cX12_isBroken 8 = .ok (.getfield 320, 3) := by decide +kernel
theorem dX12_isBroken_11 : decode cX12_isBroken 11 = .ok (.if_icmp .ge 58, 3) := by decide +kernel
theorem dX12_isBroken_14 : decode cX12_isBroken 14 = .ok (.iload_n 3, 1) := by decide +kernel
theorem dX12_isBroken_15 : decode cX12_isBroken 15 = .ok (.ifCond .ne 42, 3) := by decide +kernel
theorem dX12_isBroken_18 : decode cX12_isBroken 18 = .ok (.aload_n 0, 1) := by decide +kernel
theorem dX12_isBroken_19 : decode cX12_isBroken 19 = .ok (.getfield 159, 3) := by decide +kernel
theorem dX12_isBroken_22 : decode cX12_isBroken 22 = .ok (.iload 4, 2) := by decide +kernel
theorem dX12_isBroken_24 : decode cX12_isBroken 24 = .ok (.iaload, 1) := by decide +kernel
theorem dX12_isBroken_25 : decode cX12_isBroken 25 = .ok (.iload_n 1, 1) := by decide +kernel
theorem dX12_isBroken_26 : decode cX12_isBroken 26 = .ok (.iload_n 2, 1) := by decide +kernel
theorem dX12_isBroken_27 : decode cX12_isBroken 27 = .ok (.invokestatic 323, 3) := by decide +kernel
theorem dX12_isBroken_30 : decode cX12_isBroken 30 = .ok (.if_icmp .ne 31, 3) := by decide +kernel
theorem dX12_isBroken_33 : decode cX12_isBroken 33 = .ok (.aload_n 0, 1) := by decide +kernel
theorem dX12_isBroken_34 : decode cX12_isBroken 34 = .ok (.getfield 304, 3) := by decide +kernel
theorem dX12_isBroken_37 : decode cX12_isBroken 37 = .ok (.aload_n 0, 1) := by decide +kernel
theorem dX12_isBroken_38 : decode cX12_isBroken 38 = .ok (.getfield 162, 3) := by decide +kernel
theorem dX12_isBroken_41 : decode cX12_isBroken 41 = .ok (.iload 4, 2) := by decide +kernel
theorem dX12_isBroken_43 : decode cX12_isBroken 43 = .ok (.iaload, 1) := by decide +kernel
theorem dX12_isBroken_44 : decode cX12_isBroken 44 = .ok (.aload_n 0, 1) := by decide +kernel
theorem dX12_isBroken_45 : decode cX12_isBroken 45 = .ok (.getfield 165, 3) := by decide +kernel
theorem dX12_isBroken_48 : decode cX12_isBroken 48 = .ok (.iload 4, 2) := by decide +kernel
theorem dX12_isBroken_50 : decode cX12_isBroken 50 = .ok (.iaload, 1) := by decide +kernel
theorem dX12_isBroken_51 : decode cX12_isBroken 51 = .ok (.invokestatic 175, 3) := by decide +kernel
theorem dX12_isBroken_54 : decode cX12_isBroken 54 = .ok (.ifCond .eq 7, 3) := by decide +kernel
theorem dX12_isBroken_57 : decode cX12_isBroken 57 = .ok (.iconst 1, 1) := by decide +kernel
theorem dX12_isBroken_58 : decode cX12_isBroken 58 = .ok (.goto 4, 3) := by decide +kernel
theorem dX12_isBroken_61 : decode cX12_isBroken 61 = .ok (.iconst 0, 1) := by decide +kernel
theorem dX12_isBroken_62 : decode cX12_isBroken 62 = .ok (.istore_n 3, 1) := by decide +kernel
theorem dX12_isBroken_63 : decode cX12_isBroken 63 = .ok (.iinc 4 1, 3) := by decide +kernel
theorem dX12_isBroken_66 : decode cX12_isBroken 66 = .ok (.goto (-61), 3) := by decide +kernel
theorem dX12_isBroken_69 : decode cX12_isBroken 69 = .ok (.iload_n 3, 1) := by decide +kernel
theorem dX12_isBroken_70 : decode cX12_isBroken 70 = .ok (.ireturn, 1) := by decide +kernel
theorem dX12_ping_0 : decode cX12_ping 0 = .ok (.iload_n 1, 1) := by decide +kernel
theorem dX12_ping_1 : decode cX12_ping 1 = .ok (.invokestatic 179, 3) := by decide +kernel
theorem dX12_ping_4 : decode cX12_ping 4 = .ok (.ifCond .eq 15, 3) := by decide +kernel
theorem dX12_ping_7 : decode cX12_ping 7 = .ok (.iload_n 2, 1) := by decide +kernel
theorem dX12_ping_8 : decode cX12_ping 8 = .ok (.invokestatic 179, 3) := by decide +kernel
theorem dX12_ping_11 : decode cX12_ping 11 = .ok (.ifCond .eq 8, 3) := by decide +kernel
theorem dX12_ping_14 : decode cX12_ping 14 = .ok (.iload_n 1, 1) := by decide +kernel
theorem dX12_ping_15 : decode cX12_ping 15 = .ok (.iload_n 2, 1) := by decide +kernel
theorem dX12_ping_16 : decode cX12_ping 16 = .ok (.if_icmp .ne 5, 3) := by decide +kernel
theorem dX12_ping_19 : decode cX12_ping 19 = .ok (.iconst (-1), 1) := by decide +kernel
theorem dX12_ping_20 : decode cX12_ping 20 = .ok (.ireturn, 1) := by decide +kernel
theorem dX12_ping_21 : decode cX12_ping 21 = .ok (.aload_n 0, 1) := by decide +kernel
theorem dX12_ping_22 : decode cX12_ping 22 = .ok (.getfield 326, 3) := by decide +kernel
theorem dX12_ping_25 : decode cX12_ping 25 = .ok (.bipush 100, 2) := by decide +kernel
theorem dX12_ping_27 : decode cX12_ping 27 = .ok (.if_icmp .ne 6, 3) := by decide +kernel
theorem dX12_ping_30 : decode cX12_ping 30 = .ok (.bipush (-2), 2) := by decide +kernel
theorem dX12_ping_32 : decode cX12_ping 32 = .ok (.ireturn, 1) := by decide +kernel
theorem dX12_ping_33 : decode cX12_ping 33 = .ok (.aload_n 0, 1) := by decide +kernel
theorem dX12_ping_34 : decode cX12_ping 34 = .ok (.dup, 1) := by decide +kernel
theorem dX12_ping_35 : decode cX12_ping 35 = .ok (.getfield 326, 3) := by decide +kernel
theorem dX12_ping_38 : decode cX12_ping 38 = .ok (.iconst 1, 1) := by decide +kernel
theorem dX12_ping_39 : decode cX12_ping 39 = .ok (.iadd, 1) := by decide +kernel
theorem dX12_ping_40 : decode cX12_ping 40 = .ok (.putfield 326, 3) := by decide +kernel
theorem dX12_ping_43 : decode cX12_ping 43 = .ok (.aload_n 0, 1) := by decide +kernel
theorem dX12_ping_44 : decode cX12_ping 44 = .ok (.iconst 0, 1) := by decide +kernel
theorem dX12_ping_45 : decode cX12_ping 45 = .ok (.iload_n 1, 1) := by decide +kernel
theorem dX12_ping_46 : decode cX12_ping 46 = .ok (.iload_n 2, 1) := by decide +kernel
theorem dX12_ping_47 : decode cX12_ping 47 = .ok (.bipush (-9), 2) := by decide +kernel
theorem dX12_ping_49 : decode cX12_ping 49 = .ok (.iconst 0, 1) := by decide +kernel
theorem dX12_ping_50 : decode cX12_ping 50 = .ok (.invokevirtual 307, 3) := by decide +kernel
theorem dX12_ping_53 : decode cX12_ping 53 = .ok (.ireturn, 1) := by decide +kernel
theorem dX12_placedAt_0 : decode cX12_placedAt 0 = .ok (.iconst 0, 1) := by decide +kernel
theorem dX12_placedAt_1 : decode cX12_placedAt 1 = .ok (.istore_n 3, 1) := by decide +kernel
theorem dX12_placedAt_2 : decode cX12_placedAt 2 = .ok (.iconst 0, 1) := by decide +kernel
theorem dX12_placedAt_3 : decode cX12_placedAt 3 = .ok (.istore 4, 2) := by decide +kernel
theorem dX12_placedAt_5 : decode cX12_placedAt 5 = .ok (.iload 4, 2) := by decide +kernel
theorem dX12_placedAt_7 : decode cX12_placedAt 7 = .ok (.aload_n 0, 1) := by decide +kernel
theorem dX12_placedAt_8 : decode cX12_placedAt 8 = .ok (.getfield 311, 3) := by decide +kernel
theorem dX12_placedAt_11 : decode cX12_placedAt 11 = .ok (.if_icmp .ge 39, 3) := by decide +kernel
theorem dX12_placedAt_14 : decode cX12_placedAt 14 = .ok (.iload_n 3, 1) := by decide +kernel
theorem dX12_placedAt_15 : decode cX12_placedAt 15 = .ok (.aload_n 0, 1) := by decide +kernel
theorem dX12_placedAt_16 : decode cX12_placedAt 16 = .ok (.getfield 84, 3) := by decide +kernel
theorem dX12_placedAt_19 : decode cX12_placedAt 19 = .ok (.iload 4, 2) := by decide +kernel
theorem dX12_placedAt_21 : decode cX12_placedAt 21 = .ok (.iaload, 1) := by decide +kernel
theorem dX12_placedAt_22 : decode cX12_placedAt 22 = .ok (.iload_n 1, 1) := by decide +kernel
theorem dX12_placedAt_23 : decode cX12_placedAt 23 = .ok (.if_icmp .ne 18, 3) := by decide +kernel
theorem dX12_placedAt_26 : decode cX12_placedAt 26 = .ok (.aload_n 0, 1) := by decide +kernel
theorem dX12_placedAt_27 : decode cX12_placedAt 27 = .ok (.getfield 117, 3) := by decide +kernel
theorem dX12_placedAt_30 : decode cX12_placedAt 30 = .ok (.iload 4, 2) := by decide +kernel
theorem dX12_placedAt_32 : decode cX12_placedAt 32 = .ok (.iaload, 1) := by decide +kernel
theorem dX12_placedAt_33 : decode cX12_placedAt 33 = .ok (.iload_n 2, 1) := by decide +kernel
theorem dX12_placedAt_34 : decode cX12_placedAt 34 = .ok (.if_icmp .ne 7, 3) := by decide +kernel
theorem dX12_placedAt_37 : decode cX12_placedAt 37 = .ok (.iconst 1, 1) := by decide +kernel
theorem dX12_placedAt_38 : decode cX12_placedAt 38 = .ok (.goto 4, 3) := by decide +kernel
theorem dX12_placedAt_41 : decode cX12_placedAt 41 = .ok (.iconst 0, 1) := by decide +kernel
theorem dX12_placedAt_42 : decode cX12_placedAt 42 = .ok (.iadd, 1) := by decide +kernel
theorem dX12_placedAt_43 : decode cX12_placedAt 43 = .ok (.istore_n 3, 1) := by decide +kernel
theorem dX12_placedAt_44 : decode cX12_placedAt 44 = .ok (.iinc 4 1, 3) := by decide +kernel
theorem dX12_placedAt_47 : decode cX12_placedAt 47 = .ok (.goto (-42), 3) := by decide +kernel
theorem dX12_placedAt_50 : decode cX12_placedAt 50 = .ok (.iload_n 3, 1) := by decide +kernel
theorem dX12_placedAt_51 : decode cX12_placedAt 51 = .ok (.ireturn, 1) := by decide +kernel
theorem dX12_ends_0 : decode cX12_ends 0 = .ok (.aload_n 0, 1) := by decide +kernel
theorem dX12_ends_1 : decode cX12_ends 1 = .ok (.getfield 99, 3) := by decide +kernel
theorem dX12_ends_4 : decode cX12_ends 4 = .ok (.iload_n 1, 1) := by decide +kernel
theorem dX12_ends_5 : decode cX12_ends 5 = .ok (.iload_n 2, 1) := by decide +kernel
theorem dX12_ends_6 : decode cX12_ends 6 = .ok (.iastore, 1) := by decide +kernel
theorem dX12_ends_7 : decode cX12_ends 7 = .ok (.aload_n 0, 1) := by decide +kernel
theorem dX12_ends_8 : decode cX12_ends 8 = .ok (.getfield 111, 3) := by decide +kernel
theorem dX12_ends_11 : decode cX12_ends 11 = .ok (.iload_n 1, 1) := by decide +kernel
theorem dX12_ends_12 : decode cX12_ends 12 = .ok (.aload_n 0, 1) := by decide +kernel
theorem dX12_ends_13 : decode cX12_ends 13 = .ok (.getfield 304, 3) := by decide +kernel
theorem dX12_ends_16 : decode cX12_ends 16 = .ok (.iastore, 1) := by decide +kernel
theorem dX12_ends_17 : decode cX12_ends 17 = .ok (.return_, 1) := by decide +kernel
theorem dX12_isTooLate_0 : decode cX12_isTooLate 0 = .ok (.aload_n 0, 1) := by decide +kernel
theorem dX12_isTooLate_1 : decode cX12_isTooLate 1 = .ok (.getfield 304, 3) := by decide +kernel
theorem dX12_isTooLate_4 : decode cX12_isTooLate 4 = .ok (.aload_n 0, 1) := by decide +kernel
theorem dX12_isTooLate_5 : decode cX12_isTooLate 5 = .ok (.getfield 90, 3) := by decide +kernel
theorem dX12_isTooLate_8 : decode cX12_isTooLate 8 = .ok (.iload_n 1, 1) := by decide +kernel
theorem dX12_isTooLate_9 : decode cX12_isTooLate 9 = .ok (.iaload, 1) := by decide +kernel
theorem dX12_isTooLate_10 : decode cX12_isTooLate 10 = .ok (.iadd, 1) := by decide +kernel
theorem dX12_isTooLate_11 : decode cX12_isTooLate 11 = .ok (.aload_n 0, 1) := by decide +kernel
theorem dX12_isTooLate_12 : decode cX12_isTooLate 12 = .ok (.getfield 93, 3) := by decide +kernel
theorem dX12_isTooLate_15 : decode cX12_isTooLate 15 = .ok (.iload_n 1, 1) := by decide +kernel
theorem dX12_isTooLate_16 : decode cX12_isTooLate 16 = .ok (.iaload, 1) := by decide +kernel
theorem dX12_isTooLate_17 : decode cX12_isTooLate 17 = .ok (.if_icmp .le 7, 3) := by decide +kernel
theorem dX12_isTooLate_20 : decode cX12_isTooLate 20 = .ok (.iconst 1, 1) := by decide +kernel
theorem dX12_isTooLate_21 : decode cX12_isTooLate 21 = .ok (.goto 4, 3) := by decide +kernel
theorem dX12_isTooLate_24 : decode cX12_isTooLate 24 = .ok (.iconst 0, 1) := by decide +kernel
theorem dX12_isTooLate_25 : decode cX12_isTooLate 25 = .ok (.ireturn, 1) := by decide +kernel
theorem dX12_isKeptName_0 : decode cX12_isKeptName 0 = .ok (.aload_n 0, 1) := by decide +kernel
theorem dX12_isKeptName_1 : decode cX12_isKeptName 1 = .ok (.getfield 123, 3) := by decide +kernel
theorem dX12_isKeptName_4 : decode cX12_isKeptName 4 = .ok (.iload_n 1, 1) := by decide +kernel
theorem dX12_isKeptName_5 : decode cX12_isKeptName 5 = .ok (.iaload, 1) := by decide +kernel
theorem dX12_isKeptName_6 : decode cX12_isKeptName 6 = .ok (.aload_n 0, 1) := by decide +kernel
theorem dX12_isKeptName_7 : decode cX12_isKeptName 7 = .ok (.getfield 304, 3) := by decide +kernel
theorem dX12_isKeptName_10 : decode cX12_isKeptName 10 = .ok (.if_icmp .lt 7, 3) := by decide +kernel
theorem dX12_isKeptName_13 : decode cX12_isKeptName 13 = .ok (.iconst 1, 1) := by decide +kernel
theorem dX12_isKeptName_14 : decode cX12_isKeptName 14 = .ok (.goto 4, 3) := by decide +kernel
theorem dX12_isKeptName_17 : decode cX12_isKeptName 17 = .ok (.iconst 0, 1) := by decide +kernel
theorem dX12_isKeptName_18 : decode cX12_isKeptName 18 = .ok (.ireturn, 1) := by decide +kernel
theorem dX12_takeAsk_0 : decode cX12_takeAsk 0 = .ok (.aload_n 0, 1) := by decide +kernel
theorem dX12_takeAsk_1 : decode cX12_takeAsk 1 = .ok (.getfield 84, 3) := by decide +kernel
theorem dX12_takeAsk_4 : decode cX12_takeAsk 4 = .ok (.iload_n 1, 1) := by decide +kernel
theorem dX12_takeAsk_5 : decode cX12_takeAsk 5 = .ok (.iaload, 1) := by decide +kernel
theorem dX12_takeAsk_6 : decode cX12_takeAsk 6 = .ok (.istore_n 3, 1) := by decide +kernel
theorem dX12_takeAsk_7 : decode cX12_takeAsk 7 = .ok (.aload_n 0, 1) := by decide +kernel
theorem dX12_takeAsk_8 : decode cX12_takeAsk 8 = .ok (.iload_n 3, 1) := by decide +kernel
theorem dX12_takeAsk_9 : decode cX12_takeAsk 9 = .ok (.iconst 1, 1) := by decide +kernel
theorem dX12_takeAsk_10 : decode cX12_takeAsk 10 = .ok (.invokevirtual 329, 3) := by decide +kernel
theorem dX12_takeAsk_13 : decode cX12_takeAsk 13 = .ok (.istore 4, 2) := by decide +kernel
theorem dX12_takeAsk_15 : decode cX12_takeAsk 15 = .ok (.aload_n 0, 1) := by decide +kernel
theorem dX12_takeAsk_16 : decode cX12_takeAsk 16 = .ok (.getfield 117, 3) := by decide +kernel
theorem dX12_takeAsk_19 : decode cX12_takeAsk 19 = .ok (.iload_n 1, 1) := by decide +kernel
theorem dX12_takeAsk_20 : decode cX12_takeAsk 20 = .ok (.iaload, 1) := by decide +kernel
theorem dX12_takeAsk_21 : decode cX12_takeAsk 21 = .ok (.ifCond .eq 4, 3) := by decide +kernel
theorem dX12_takeAsk_24 : decode cX12_takeAsk 24 = .ok (.return_, 1) := by decide +kernel
theorem dX12_takeAsk_25 : decode cX12_takeAsk 25 = .ok (.aload_n 0, 1) := by decide +kernel
theorem dX12_takeAsk_26 : decode cX12_takeAsk 26 = .ok (.iload_n 1, 1) := by decide +kernel
theorem dX12_takeAsk_27 : decode cX12_takeAsk 27 = .ok (.invokevirtual 332, 3) := by decide +kernel
theorem dX12_takeAsk_30 : decode cX12_takeAsk 30 = .ok (.ifCond .eq 14, 3) := by decide +kernel
theorem dX12_takeAsk_33 : decode cX12_takeAsk 33 = .ok (.aload_n 0, 1) := by decide +kernel
theorem dX12_takeAsk_34 : decode cX12_takeAsk 34 = .ok (.iload_n 1, 1) := by decide +kernel
theorem dX12_takeAsk_35 : decode cX12_takeAsk 35 = .ok (.iconst 2, 1) := by decide +kernel
theorem dX12_takeAsk_36 : decode cX12_takeAsk 36 = .ok (.iconst 0, 1) := by decide +kernel
theorem dX12_takeAsk_37 : decode cX12_takeAsk 37 = .ok (.invokevirtual 335, 3) := by decide +kernel
theorem dX12_takeAsk_40 : decode cX12_takeAsk 40 = .ok (.pop, 1) := by decide +kernel
theorem dX12_takeAsk_41 : decode cX12_takeAsk 41 = .ok (.goto 96, 3) := by decide +kernel
theorem dX12_takeAsk_44 : decode cX12_takeAsk 44 = .ok (.iload_n 2, 1) := by decide +kernel
theorem dX12_takeAsk_45 : decode cX12_takeAsk 45 = .ok (.ifCond .le 25, 3) := by decide +kernel
theorem dX12_takeAsk_48 : decode cX12_takeAsk 48 = .ok (.aload_n 0, 1) := by decide +kernel
theorem dX12_takeAsk_49 : decode cX12_takeAsk 49 = .ok (.getfield 87, 3) := by decide +kernel
theorem dX12_takeAsk_52 : decode cX12_takeAsk 52 = .ok (.iload_n 1, 1) := by decide +kernel
theorem dX12_takeAsk_53 : decode cX12_takeAsk 53 = .ok (.iaload, 1) := by decide +kernel
theorem dX12_takeAsk_54 : decode cX12_takeAsk 54 = .ok (.iconst 1, 1) := by decide +kernel
theorem dX12_takeAsk_55 : decode cX12_takeAsk 55 = .ok (.if_icmp .ne 15, 3) := by decide +kernel
theorem dX12_takeAsk_58 : decode cX12_takeAsk 58 = .ok (.aload_n 0, 1) := by decide +kernel
theorem dX12_takeAsk_59 : decode cX12_takeAsk 59 = .ok (.iload_n 1, 1) := by decide +kernel
theorem dX12_takeAsk_60 : decode cX12_takeAsk 60 = .ok (.iconst 3, 1) := by decide +kernel
theorem dX12_takeAsk_61 : decode cX12_takeAsk 61 = .ok (.bipush 8, 2) := by decide +kernel
theorem dX12_takeAsk_63 : decode cX12_takeAsk 63 = .ok (.invokevirtual 335, 3) := by decide +kernel
theorem dX12_takeAsk_66 : decode cX12_takeAsk 66 = .ok (.pop, 1) := by decide +kernel
theorem dX12_takeAsk_67 : decode cX12_takeAsk 67 = .ok (.goto 70, 3) := by decide +kernel
theorem dX12_takeAsk_70 : decode cX12_takeAsk 70 = .ok (.aload_n 0, 1) := by decide +kernel
theorem dX12_takeAsk_71 : decode cX12_takeAsk 71 = .ok (.iload_n 1, 1) := by decide +kernel
theorem dX12_takeAsk_72 : decode cX12_takeAsk 72 = .ok (.invokevirtual 338, 3) := by decide +kernel
theorem dX12_takeAsk_75 : decode cX12_takeAsk 75 = .ok (.ifCond .eq 15, 3) := by decide +kernel
theorem dX12_takeAsk_78 : decode cX12_takeAsk 78 = .ok (.aload_n 0, 1) := by decide +kernel
theorem dX12_takeAsk_79 : decode cX12_takeAsk 79 = .ok (.iload_n 1, 1) := by decide +kernel
theorem dX12_takeAsk_80 : decode cX12_takeAsk 80 = .ok (.iconst 3, 1) := by decide +kernel
theorem dX12_takeAsk_81 : decode cX12_takeAsk 81 = .ok (.bipush 6, 2) := by decide +kernel
theorem dX12_takeAsk_83 : decode cX12_takeAsk 83 = .ok (.invokevirtual 335, 3) := by decide +kernel
theorem dX12_takeAsk_86 : decode cX12_takeAsk 86 = .ok (.pop, 1) := by decide +kernel
theorem dX12_takeAsk_87 : decode cX12_takeAsk 87 = .ok (.goto 50, 3) := by decide +kernel
theorem dX12_takeAsk_90 : decode cX12_takeAsk 90 = .ok (.iload 4, 2) := by decide +kernel
theorem dX12_takeAsk_92 : decode cX12_takeAsk 92 = .ok (.aload_n 0, 1) := by decide +kernel
theorem dX12_takeAsk_93 : decode cX12_takeAsk 93 = .ok (.iload_n 3, 1) := by decide +kernel
theorem dX12_takeAsk_94 : decode cX12_takeAsk 94 = .ok (.iconst 2, 1) := by decide +kernel
theorem dX12_takeAsk_95 : decode cX12_takeAsk 95 = .ok (.invokevirtual 329, 3) := by decide +kernel
theorem dX12_takeAsk_98 : decode cX12_takeAsk 98 = .ok (.iadd, 1) := by decide +kernel
theorem dX12_takeAsk_99 : decode cX12_takeAsk 99 = .ok (.aload_n 0, 1) := by decide +kernel
theorem dX12_takeAsk_100 : decode cX12_takeAsk 100 = .ok (.getfield 72, 3) := by decide +kernel
theorem dX12_takeAsk_103 : decode cX12_takeAsk 103 = .ok (.iload_n 3, 1) := by decide +kernel
theorem dX12_takeAsk_104 : decode cX12_takeAsk 104 = .ok (.iaload, 1) := by decide +kernel
theorem dX12_takeAsk_105 : decode cX12_takeAsk 105 = .ok (.if_icmp .lt 25, 3) := by decide +kernel
theorem dX12_takeAsk_108 : decode cX12_takeAsk 108 = .ok (.iload 4, 2) := by decide +kernel
theorem dX12_takeAsk_110 : decode cX12_takeAsk 110 = .ok (.aload_n 0, 1) := by decide +kernel
theorem dX12_takeAsk_111 : decode cX12_takeAsk 111 = .ok (.getfield 75, 3) := by decide +kernel
theorem dX12_takeAsk_114 : decode cX12_takeAsk 114 = .ok (.iload_n 3, 1) := by decide +kernel
theorem dX12_takeAsk_115 : decode cX12_takeAsk 115 = .ok (.iaload, 1) := by decide +kernel
theorem dX12_takeAsk_116 : decode cX12_takeAsk 116 = .ok (.if_icmp .lt 14, 3) := by decide +kernel
theorem dX12_takeAsk_119 : decode cX12_takeAsk 119 = .ok (.aload_n 0, 1) := by decide +kernel
theorem dX12_takeAsk_120 : decode cX12_takeAsk 120 = .ok (.iload_n 1, 1) := by decide +kernel
theorem dX12_takeAsk_121 : decode cX12_takeAsk 121 = .ok (.iconst 3, 1) := by decide +kernel
theorem dX12_takeAsk_122 : decode cX12_takeAsk 122 = .ok (.iconst 4, 1) := by decide +kernel
theorem dX12_takeAsk_123 : decode cX12_takeAsk 123 = .ok (.invokevirtual 335, 3) := by decide +kernel
theorem dX12_takeAsk_126 : decode cX12_takeAsk 126 = .ok (.pop, 1) := by decide +kernel
theorem dX12_takeAsk_127 : decode cX12_takeAsk 127 = .ok (.goto 10, 3) := by decide +kernel
theorem dX12_takeAsk_130 : decode cX12_takeAsk 130 = .ok (.aload_n 0, 1) := by decide +kernel
theorem dX12_takeAsk_131 : decode cX12_takeAsk 131 = .ok (.getfield 117, 3) := by decide +kernel
theorem dX12_takeAsk_134 : decode cX12_takeAsk 134 = .ok (.iload_n 1, 1) := by decide +kernel
theorem dX12_takeAsk_135 : decode cX12_takeAsk 135 = .ok (.iconst 1, 1) := by decide +kernel
theorem dX12_takeAsk_136 : decode cX12_takeAsk 136 = .ok (.iastore, 1) := by decide +kernel
theorem dX12_takeAsk_137 : decode cX12_takeAsk 137 = .ok (.return_, 1) := by decide +kernel
theorem dX12_takeFrame_0 : decode cX12_takeFrame 0 = .ok (.aload_n 0, 1) := by decide +kernel
theorem dX12_takeFrame_1 : decode cX12_takeFrame 1 = .ok (.getfield 153, 3) := by decide +kernel
theorem dX12_takeFrame_4 : decode cX12_takeFrame 4 = .ok (.iload_n 1, 1) := by decide +kernel
theorem dX12_takeFrame_5 : decode cX12_takeFrame 5 = .ok (.iaload, 1) := by decide +kernel
theorem dX12_takeFrame_6 : decode cX12_takeFrame 6 = .ok (.istore_n 2, 1) := by decide +kernel
theorem dX12_takeFrame_7 : decode cX12_takeFrame 7 = .ok (.aload_n 0, 1) := by decide +kernel
theorem dX12_takeFrame_8 : decode cX12_takeFrame 8 = .ok (.getfield 138, 3) := by decide +kernel
theorem dX12_takeFrame_11 : decode cX12_takeFrame 11 = .ok (.iload_n 1, 1) := by decide +kernel
theorem dX12_takeFrame_12 : decode cX12_takeFrame 12 = .ok (.iaload, 1) := by decide +kernel
theorem dX12_takeFrame_13 : decode cX12_takeFrame 13 = .ok (.tableswitch 140 1 6 #[39, 78, 78, 113, 124, 51], 39) := by decide +kernel
theorem dX12_takeFrame_52 : decode cX12_takeFrame 52 = .ok (.aload_n 0, 1) := by decide +kernel
theorem dX12_takeFrame_53 : decode cX12_takeFrame 53 = .ok (.iload_n 2, 1) := by decide +kernel
theorem dX12_takeFrame_54 : decode cX12_takeFrame 54 = .ok (.aload_n 0, 1) := by decide +kernel
theorem dX12_takeFrame_55 : decode cX12_takeFrame 55 = .ok (.getfield 156, 3) := by decide +kernel
theorem dX12_takeFrame_58 : decode cX12_takeFrame 58 = .ok (.iload_n 1, 1) := by decide +kernel
theorem dX12_takeFrame_59 : decode cX12_takeFrame 59 = .ok (.iaload, 1) := by decide +kernel
theorem dX12_takeFrame_60 : decode cX12_takeFrame 60 = .ok (.invokevirtual 341, 3) := by decide +kernel
theorem dX12_takeFrame_63 : decode cX12_takeFrame 63 = .ok (.return_, 1) := by decide +kernel
theorem dX12_takeFrame_64 : decode cX12_takeFrame 64 = .ok (.aload_n 0, 1) := by decide +kernel
theorem dX12_takeFrame_65 : decode cX12_takeFrame 65 = .ok (.getfield 117, 3) := by decide +kernel
theorem dX12_takeFrame_68 : decode cX12_takeFrame 68 = .ok (.iload_n 2, 1) := by decide +kernel
theorem dX12_takeFrame_69 : decode cX12_takeFrame 69 = .ok (.aload_n 0, 1) := by decide +kernel
theorem dX12_takeFrame_70 : decode cX12_takeFrame 70 = .ok (.getfield 117, 3) := by decide +kernel
theorem dX12_takeFrame_73 : decode cX12_takeFrame 73 = .ok (.iload_n 2, 1) := by decide +kernel
theorem dX12_takeFrame_74 : decode cX12_takeFrame 74 = .ok (.iaload, 1) := by decide +kernel
theorem dX12_takeFrame_75 : decode cX12_takeFrame 75 = .ok (.iconst 1, 1) := by decide +kernel
theorem dX12_takeFrame_76 : decode cX12_takeFrame 76 = .ok (.if_icmp .ne 7, 3) := by decide +kernel
theorem dX12_takeFrame_79 : decode cX12_takeFrame 79 = .ok (.iconst 0, 1) := by decide +kernel
theorem dX12_takeFrame_80 : decode cX12_takeFrame 80 = .ok (.goto 9, 3) := by decide +kernel
theorem dX12_takeFrame_83 : decode cX12_takeFrame 83 = .ok (.aload_n 0, 1) := by decide +kernel
theorem dX12_takeFrame_84 : decode cX12_takeFrame 84 = .ok (.getfield 117, 3) := by decide +kernel
theorem dX12_takeFrame_87 : decode cX12_takeFrame 87 = .ok (.iload_n 2, 1) := by decide +kernel
theorem dX12_takeFrame_88 : decode cX12_takeFrame 88 = .ok (.iaload, 1) := by decide +kernel
theorem dX12_takeFrame_89 : decode cX12_takeFrame 89 = .ok (.iastore, 1) := by decide +kernel
theorem dX12_takeFrame_90 : decode cX12_takeFrame 90 = .ok (.return_, 1) := by decide +kernel
theorem dX12_takeFrame_91 : decode cX12_takeFrame 91 = .ok (.aload_n 0, 1) := by decide +kernel
theorem dX12_takeFrame_92 : decode cX12_takeFrame 92 = .ok (.getfield 99, 3) := by decide +kernel
theorem dX12_takeFrame_95 : decode cX12_takeFrame 95 = .ok (.iload_n 2, 1) := by decide +kernel
theorem dX12_takeFrame_96 : decode cX12_takeFrame 96 = .ok (.iaload, 1) := by decide +kernel
theorem dX12_takeFrame_97 : decode cX12_takeFrame 97 = .ok (.ifCond .ne 28, 3) := by decide +kernel
theorem dX12_takeFrame_100 : decode cX12_takeFrame 100 = .ok (.aload_n 0, 1) := by decide +kernel
theorem dX12_takeFrame_101 : decode cX12_takeFrame 101 = .ok (.iload_n 2, 1) := by decide +kernel
theorem dX12_takeFrame_102 : decode cX12_takeFrame 102 = .ok (.aload_n 0, 1) := by decide +kernel
theorem dX12_takeFrame_103 : decode cX12_takeFrame 103 = .ok (.getfield 138, 3) := by decide +kernel
theorem dX12_takeFrame_106 : decode cX12_takeFrame 106 = .ok (.iload_n 1, 1) := by decide +kernel
theorem dX12_takeFrame_107 : decode cX12_takeFrame 107 = .ok (.iaload, 1) := by decide +kernel
theorem dX12_takeFrame_108 : decode cX12_takeFrame 108 = .ok (.iconst 2, 1) := by decide +kernel
theorem dX12_takeFrame_109 : decode cX12_takeFrame 109 = .ok (.if_icmp .ne 7, 3) := by decide +kernel
theorem dX12_takeFrame_112 : decode cX12_takeFrame 112 = .ok (.iconst 3, 1) := by decide +kernel
theorem dX12_takeFrame_113 : decode cX12_takeFrame 113 = .ok (.goto 9, 3) := by decide +kernel
theorem dX12_takeFrame_116 : decode cX12_takeFrame 116 = .ok (.aload_n 0, 1) := by decide +kernel
theorem dX12_takeFrame_117 : decode cX12_takeFrame 117 = .ok (.getfield 156, 3) := by decide +kernel
theorem dX12_takeFrame_120 : decode cX12_takeFrame 120 = .ok (.iload_n 1, 1) := by decide +kernel
theorem dX12_takeFrame_121 : decode cX12_takeFrame 121 = .ok (.iaload, 1) := by decide +kernel
theorem dX12_takeFrame_122 : decode cX12_takeFrame 122 = .ok (.invokevirtual 344, 3) := by decide +kernel
theorem dX12_takeFrame_125 : decode cX12_takeFrame 125 = .ok (.return_, 1) := by decide +kernel
theorem dX12_takeFrame_126 : decode cX12_takeFrame 126 = .ok (.aload_n 0, 1) := by decide +kernel
theorem dX12_takeFrame_127 : decode cX12_takeFrame 127 = .ok (.getfield 135, 3) := by decide +kernel
theorem dX12_takeFrame_130 : decode cX12_takeFrame 130 = .ok (.iload_n 2, 1) := by decide +kernel
theorem dX12_takeFrame_131 : decode cX12_takeFrame 131 = .ok (.dup2, 1) := by decide +kernel
theorem dX12_takeFrame_132 : decode cX12_takeFrame 132 = .ok (.iaload, 1) := by decide +kernel
theorem dX12_takeFrame_133 : decode cX12_takeFrame 133 = .ok (.iconst 1, 1) := by decide +kernel
theorem dX12_takeFrame_134 : decode cX12_takeFrame 134 = .ok (.iadd, 1) := by decide +kernel
theorem dX12_takeFrame_135 : decode cX12_takeFrame 135 = .ok (.iastore, 1) := by decide +kernel
theorem dX12_takeFrame_136 : decode cX12_takeFrame 136 = .ok (.return_, 1) := by decide +kernel
theorem dX12_takeFrame_137 : decode cX12_takeFrame 137 = .ok (.aload_n 0, 1) := by decide +kernel
theorem dX12_takeFrame_138 : decode cX12_takeFrame 138 = .ok (.getfield 129, 3) := by decide +kernel
theorem dX12_takeFrame_141 : decode cX12_takeFrame 141 = .ok (.iload_n 2, 1) := by decide +kernel
theorem dX12_takeFrame_142 : decode cX12_takeFrame 142 = .ok (.dup2, 1) := by decide +kernel
theorem dX12_takeFrame_143 : decode cX12_takeFrame 143 = .ok (.iaload, 1) := by decide +kernel
theorem dX12_takeFrame_144 : decode cX12_takeFrame 144 = .ok (.aload_n 0, 1) := by decide +kernel
theorem dX12_takeFrame_145 : decode cX12_takeFrame 145 = .ok (.getfield 156, 3) := by decide +kernel
theorem dX12_takeFrame_148 : decode cX12_takeFrame 148 = .ok (.iload_n 1, 1) := by decide +kernel
theorem dX12_takeFrame_149 : decode cX12_takeFrame 149 = .ok (.iaload, 1) := by decide +kernel
theorem dX12_takeFrame_150 : decode cX12_takeFrame 150 = .ok (.iadd, 1) := by decide +kernel
theorem dX12_takeFrame_151 : decode cX12_takeFrame 151 = .ok (.iastore, 1) := by decide +kernel
theorem dX12_takeFrame_152 : decode cX12_takeFrame 152 = .ok (.return_, 1) := by decide +kernel
theorem dX12_takeFrame_153 : decode cX12_takeFrame 153 = .ok (.return_, 1) := by decide +kernel
theorem dX12_doWork_0 : decode cX12_doWork 0 = .ok (.iconst 0, 1) := by decide +kernel
theorem dX12_doWork_1 : decode cX12_doWork 1 = .ok (.istore_n 2, 1) := by decide +kernel
theorem dX12_doWork_2 : decode cX12_doWork 2 = .ok (.iload_n 2, 1) := by decide +kernel
theorem dX12_doWork_3 : decode cX12_doWork 3 = .ok (.aload_n 0, 1) := by decide +kernel
theorem dX12_doWork_4 : decode cX12_doWork 4 = .ok (.getfield 311, 3) := by decide +kernel
theorem dX12_doWork_7 : decode cX12_doWork 7 = .ok (.if_icmp .ge 104, 3) := by decide +kernel
theorem dX12_doWork_10 : decode cX12_doWork 10 = .ok (.aload_n 0, 1) := by decide +kernel
theorem dX12_doWork_11 : decode cX12_doWork 11 = .ok (.getfield 84, 3) := by decide +kernel
theorem dX12_doWork_14 : decode cX12_doWork 14 = .ok (.iload_n 2, 1) := by decide +kernel
theorem dX12_doWork_15 : decode cX12_doWork 15 = .ok (.iaload, 1) := by decide +kernel
theorem dX12_doWork_16 : decode cX12_doWork 16 = .ok (.iload_n 1, 1) := by decide +kernel
theorem dX12_doWork_17 : decode cX12_doWork 17 = .ok (.if_icmp .ne 88, 3) := by decide +kernel
theorem dX12_doWork_20 : decode cX12_doWork 20 = .ok (.aload_n 0, 1) := by decide +kernel
theorem dX12_doWork_21 : decode cX12_doWork 21 = .ok (.getfield 117, 3) := by decide +kernel
theorem dX12_doWork_24 : decode cX12_doWork 24 = .ok (.iload_n 2, 1) := by decide +kernel
theorem dX12_doWork_25 : decode cX12_doWork 25 = .ok (.iaload, 1) := by decide +kernel
theorem dX12_doWork_26 : decode cX12_doWork 26 = .ok (.iconst 2, 1) := by decide +kernel
theorem dX12_doWork_27 : decode cX12_doWork 27 = .ok (.if_icmp .ne 78, 3) := by decide +kernel
theorem dX12_doWork_30 : decode cX12_doWork 30 = .ok (.aload_n 0, 1) := by decide +kernel
theorem dX12_doWork_31 : decode cX12_doWork 31 = .ok (.getfield 120, 3) := by decide +kernel
theorem dX12_doWork_34 : decode cX12_doWork 34 = .ok (.iload_n 2, 1) := by decide +kernel
theorem dX12_doWork_35 : decode cX12_doWork 35 = .ok (.dup2, 1) := by decide +kernel
theorem dX12_doWork_36 : decode cX12_doWork 36 = .ok (.iaload, 1) := by decide +kernel
theorem dX12_doWork_37 : decode cX12_doWork 37 = .ok (.iconst 1, 1) := by decide +kernel
theorem dX12_doWork_38 : decode cX12_doWork 38 = .ok (.isub, 1) := by decide +kernel
theorem dX12_doWork_39 : decode cX12_doWork 39 = .ok (.iastore, 1) := by decide +kernel
theorem dX12_doWork_40 : decode cX12_doWork 40 = .ok (.aload_n 0, 1) := by decide +kernel
theorem dX12_doWork_41 : decode cX12_doWork 41 = .ok (.getfield 120, 3) := by decide +kernel
theorem dX12_doWork_44 : decode cX12_doWork 44 = .ok (.iload_n 2, 1) := by decide +kernel
theorem dX12_doWork_45 : decode cX12_doWork 45 = .ok (.iaload, 1) := by decide +kernel
theorem dX12_doWork_46 : decode cX12_doWork 46 = .ok (.ifCond .ne 59, 3) := by decide +kernel
theorem dX12_doWork_49 : decode cX12_doWork 49 = .ok (.aload_n 0, 1) := by decide +kernel
theorem dX12_doWork_50 : decode cX12_doWork 50 = .ok (.getfield 117, 3) := by decide +kernel
theorem dX12_doWork_53 : decode cX12_doWork 53 = .ok (.iload_n 2, 1) := by decide +kernel
theorem dX12_doWork_54 : decode cX12_doWork 54 = .ok (.iconst 0, 1) := by decide +kernel
theorem dX12_doWork_55 : decode cX12_doWork 55 = .ok (.iastore, 1) := by decide +kernel
theorem dX12_doWork_56 : decode cX12_doWork 56 = .ok (.aload_n 0, 1) := by decide +kernel
theorem dX12_doWork_57 : decode cX12_doWork 57 = .ok (.getfield 105, 3) := by decide +kernel
theorem dX12_doWork_60 : decode cX12_doWork 60 = .ok (.iload_n 2, 1) := by decide +kernel
theorem dX12_doWork_61 : decode cX12_doWork 61 = .ok (.dup2, 1) := by decide +kernel
theorem dX12_doWork_62 : decode cX12_doWork 62 = .ok (.iaload, 1) := by decide +kernel
theorem dX12_doWork_63 : decode cX12_doWork 63 = .ok (.aload_n 0, 1) := by decide +kernel
theorem dX12_doWork_64 : decode cX12_doWork 64 = .ok (.getfield 87, 3) := by decide +kernel
theorem dX12_doWork_67 : decode cX12_doWork 67 = .ok (.iload_n 2, 1) := by decide +kernel
theorem dX12_doWork_68 : decode cX12_doWork 68 = .ok (.iaload, 1) := by decide +kernel
theorem dX12_doWork_69 : decode cX12_doWork 69 = .ok (.iconst 2, 1) := by decide +kernel
theorem dX12_doWork_70 : decode cX12_doWork 70 = .ok (.if_icmp .ne 7, 3) := by decide +kernel
theorem dX12_doWork_73 : decode cX12_doWork 73 = .ok (.iconst 0, 1) := by decide +kernel
theorem dX12_doWork_74 : decode cX12_doWork 74 = .ok (.goto 4, 3) := by decide +kernel
theorem dX12_doWork_77 : decode cX12_doWork 77 = .ok (.iconst 1, 1) := by decide +kernel
theorem dX12_doWork_78 : decode cX12_doWork 78 = .ok (.iadd, 1) := by decide +kernel
theorem dX12_doWork_79 : decode cX12_doWork 79 = .ok (.iastore, 1) := by decide +kernel
theorem dX12_doWork_80 : decode cX12_doWork 80 = .ok (.aload_n 0, 1) := by decide +kernel
theorem dX12_doWork_81 : decode cX12_doWork 81 = .ok (.getfield 123, 3) := by decide +kernel
theorem dX12_doWork_84 : decode cX12_doWork 84 = .ok (.iload_n 2, 1) := by decide +kernel
theorem dX12_doWork_85 : decode cX12_doWork 85 = .ok (.aload_n 0, 1) := by decide +kernel
theorem dX12_doWork_86 : decode cX12_doWork 86 = .ok (.getfield 304, 3) := by decide +kernel
theorem dX12_doWork_89 : decode cX12_doWork 89 = .ok (.aload_n 0, 1) := by decide +kernel
theorem dX12_doWork_90 : decode cX12_doWork 90 = .ok (.getfield 78, 3) := by decide +kernel
theorem dX12_doWork_93 : decode cX12_doWork 93 = .ok (.iload_n 1, 1) := by decide +kernel
theorem dX12_doWork_94 : decode cX12_doWork 94 = .ok (.iaload, 1) := by decide +kernel
theorem dX12_doWork_95 : decode cX12_doWork 95 = .ok (.iadd, 1) := by decide +kernel
theorem dX12_doWork_96 : decode cX12_doWork 96 = .ok (.iastore, 1) := by decide +kernel
theorem dX12_doWork_97 : decode cX12_doWork 97 = .ok (.aload_n 0, 1) := by decide +kernel
theorem dX12_doWork_98 : decode cX12_doWork 98 = .ok (.iload_n 2, 1) := by decide +kernel
theorem dX12_doWork_99 : decode cX12_doWork 99 = .ok (.iconst 2, 1) := by decide +kernel
theorem dX12_doWork_100 : decode cX12_doWork 100 = .ok (.iconst 0, 1) := by decide +kernel
theorem dX12_doWork_101 : decode cX12_doWork 101 = .ok (.invokevirtual 335, 3) := by decide +kernel
theorem dX12_doWork_104 : decode cX12_doWork 104 = .ok (.pop, 1) := by decide +kernel
theorem dX12_doWork_105 : decode cX12_doWork 105 = .ok (.iinc 2 1, 3) := by decide +kernel
theorem dX12_doWork_108 : decode cX12_doWork 108 = .ok (.goto (-106), 3) := by decide +kernel
theorem dX12_doWork_111 : decode cX12_doWork 111 = .ok (.return_, 1) := by decide +kernel
theorem dX12_begin_0 : decode cX12_begin 0 = .ok (.iconst 0, 1) := by decide +kernel
theorem dX12_begin_1 : decode cX12_begin 1 = .ok (.istore_n 2, 1) := by decide +kernel
theorem dX12_begin_2 : decode cX12_begin 2 = .ok (.iload_n 2, 1) := by decide +kernel
theorem dX12_begin_3 : decode cX12_begin 3 = .ok (.aload_n 0, 1) := by decide +kernel
theorem dX12_begin_4 : decode cX12_begin 4 = .ok (.getfield 311, 3) := by decide +kernel
theorem dX12_begin_7 : decode cX12_begin 7 = .ok (.if_icmp .ge 93, 3) := by decide +kernel
theorem dX12_begin_10 : decode cX12_begin 10 = .ok (.aload_n 0, 1) := by decide +kernel
theorem dX12_begin_11 : decode cX12_begin 11 = .ok (.iload_n 1, 1) := by decide +kernel
theorem dX12_begin_12 : decode cX12_begin 12 = .ok (.iconst 2, 1) := by decide +kernel
theorem dX12_begin_13 : decode cX12_begin 13 = .ok (.invokevirtual 329, 3) := by decide +kernel
theorem dX12_begin_16 : decode cX12_begin 16 = .ok (.aload_n 0, 1) := by decide +kernel
theorem dX12_begin_17 : decode cX12_begin 17 = .ok (.getfield 72, 3) := by decide +kernel
theorem dX12_begin_20 : decode cX12_begin 20 = .ok (.iload_n 1, 1) := by decide +kernel
theorem dX12_begin_21 : decode cX12_begin 21 = .ok (.iaload, 1) := by decide +kernel
theorem dX12_begin_22 : decode cX12_begin 22 = .ok (.if_icmp .ge 78, 3) := by decide +kernel
theorem dX12_begin_25 : decode cX12_begin 25 = .ok (.aload_n 0, 1) := by decide +kernel
theorem dX12_begin_26 : decode cX12_begin 26 = .ok (.getfield 84, 3) := by decide +kernel
theorem dX12_begin_29 : decode cX12_begin 29 = .ok (.iload_n 2, 1) := by decide +kernel
theorem dX12_begin_30 : decode cX12_begin 30 = .ok (.iaload, 1) := by decide +kernel
theorem dX12_begin_31 : decode cX12_begin 31 = .ok (.iload_n 1, 1) := by decide +kernel
theorem dX12_begin_32 : decode cX12_begin 32 = .ok (.if_icmp .ne 62, 3) := by decide +kernel
theorem dX12_begin_35 : decode cX12_begin 35 = .ok (.aload_n 0, 1) := by decide +kernel
theorem dX12_begin_36 : decode cX12_begin 36 = .ok (.getfield 117, 3) := by decide +kernel
theorem dX12_begin_39 : decode cX12_begin 39 = .ok (.iload_n 2, 1) := by decide +kernel
theorem dX12_begin_40 : decode cX12_begin 40 = .ok (.iaload, 1) := by decide +kernel
theorem dX12_begin_41 : decode cX12_begin 41 = .ok (.iconst 1, 1) := by decide +kernel
theorem dX12_begin_42 : decode cX12_begin 42 = .ok (.if_icmp .ne 52, 3) := by decide +kernel
theorem dX12_begin_45 : decode cX12_begin 45 = .ok (.aload_n 0, 1) := by decide +kernel
theorem dX12_begin_46 : decode cX12_begin 46 = .ok (.getfield 117, 3) := by decide +kernel
theorem dX12_begin_49 : decode cX12_begin 49 = .ok (.iload_n 2, 1) := by decide +kernel
theorem dX12_begin_50 : decode cX12_begin 50 = .ok (.aload_n 0, 1) := by decide +kernel
theorem dX12_begin_51 : decode cX12_begin 51 = .ok (.iload_n 2, 1) := by decide +kernel
theorem dX12_begin_52 : decode cX12_begin 52 = .ok (.invokevirtual 338, 3) := by decide +kernel
theorem dX12_begin_55 : decode cX12_begin 55 = .ok (.ifCond .eq 7, 3) := by decide +kernel
theorem dX12_begin_58 : decode cX12_begin 58 = .ok (.iconst 0, 1) := by decide +kernel
theorem dX12_begin_59 : decode cX12_begin 59 = .ok (.goto 4, 3) := by decide +kernel
theorem dX12_begin_62 : decode cX12_begin 62 = .ok (.iconst 2, 1) := by decide +kernel
theorem dX12_begin_63 : decode cX12_begin 63 = .ok (.iastore, 1) := by decide +kernel
theorem dX12_begin_64 : decode cX12_begin 64 = .ok (.aload_n 0, 1) := by decide +kernel
theorem dX12_begin_65 : decode cX12_begin 65 = .ok (.getfield 120, 3) := by decide +kernel
theorem dX12_begin_68 : decode cX12_begin 68 = .ok (.iload_n 2, 1) := by decide +kernel
theorem dX12_begin_69 : decode cX12_begin 69 = .ok (.aload_n 0, 1) := by decide +kernel
theorem dX12_begin_70 : decode cX12_begin 70 = .ok (.getfield 90, 3) := by decide +kernel
theorem dX12_begin_73 : decode cX12_begin 73 = .ok (.iload_n 2, 1) := by decide +kernel
theorem dX12_begin_74 : decode cX12_begin 74 = .ok (.iaload, 1) := by decide +kernel
theorem dX12_begin_75 : decode cX12_begin 75 = .ok (.iastore, 1) := by decide +kernel
theorem dX12_begin_76 : decode cX12_begin 76 = .ok (.aload_n 0, 1) := by decide +kernel
theorem dX12_begin_77 : decode cX12_begin 77 = .ok (.getfield 117, 3) := by decide +kernel
theorem dX12_begin_80 : decode cX12_begin 80 = .ok (.iload_n 2, 1) := by decide +kernel
theorem dX12_begin_81 : decode cX12_begin 81 = .ok (.iaload, 1) := by decide +kernel
theorem dX12_begin_82 : decode cX12_begin 82 = .ok (.ifCond .ne 12, 3) := by decide +kernel
theorem dX12_begin_85 : decode cX12_begin 85 = .ok (.aload_n 0, 1) := by decide +kernel
theorem dX12_begin_86 : decode cX12_begin 86 = .ok (.iload_n 2, 1) := by decide +kernel
theorem dX12_begin_87 : decode cX12_begin 87 = .ok (.iconst 3, 1) := by decide +kernel
theorem dX12_begin_88 : decode cX12_begin 88 = .ok (.bipush 6, 2) := by decide +kernel
theorem dX12_begin_90 : decode cX12_begin 90 = .ok (.invokevirtual 335, 3) := by decide +kernel
theorem dX12_begin_93 : decode cX12_begin 93 = .ok (.pop, 1) := by decide +kernel
theorem dX12_begin_94 : decode cX12_begin 94 = .ok (.iinc 2 1, 3) := by decide +kernel
theorem dX12_begin_97 : decode cX12_begin 97 = .ok (.goto (-95), 3) := by decide +kernel
theorem dX12_begin_100 : decode cX12_begin 100 = .ok (.return_, 1) := by decide +kernel
theorem dX12_goOn_0 : decode cX12_goOn 0 = .ok (.aload_n 0, 1) := by decide +kernel
theorem dX12_goOn_1 : decode cX12_goOn 1 = .ok (.getfield 304, 3) := by decide +kernel
theorem dX12_goOn_4 : decode cX12_goOn 4 = .ok (.aload_n 0, 1) := by decide +kernel
theorem dX12_goOn_5 : decode cX12_goOn 5 = .ok (.getfield 93, 3) := by decide +kernel
theorem dX12_goOn_8 : decode cX12_goOn 8 = .ok (.iload_n 1, 1) := by decide +kernel
theorem dX12_goOn_9 : decode cX12_goOn 9 = .ok (.iaload, 1) := by decide +kernel
theorem dX12_goOn_10 : decode cX12_goOn 10 = .ok (.if_icmp .le 23, 3) := by decide +kernel
theorem dX12_goOn_13 : decode cX12_goOn 13 = .ok (.aload_n 0, 1) := by decide +kernel
theorem dX12_goOn_14 : decode cX12_goOn 14 = .ok (.iload_n 1, 1) := by decide +kernel
theorem dX12_goOn_15 : decode cX12_goOn 15 = .ok (.bipush 6, 2) := by decide +kernel
theorem dX12_goOn_17 : decode cX12_goOn 17 = .ok (.invokevirtual 344, 3) := by decide +kernel
theorem dX12_goOn_20 : decode cX12_goOn 20 = .ok (.aload_n 0, 1) := by decide +kernel
theorem dX12_goOn_21 : decode cX12_goOn 21 = .ok (.iload_n 1, 1) := by decide +kernel
theorem dX12_goOn_22 : decode cX12_goOn 22 = .ok (.bipush 6, 2) := by decide +kernel
theorem dX12_goOn_24 : decode cX12_goOn 24 = .ok (.bipush 6, 2) := by decide +kernel
theorem dX12_goOn_26 : decode cX12_goOn 26 = .ok (.invokevirtual 314, 3) := by decide +kernel
theorem dX12_goOn_29 : decode cX12_goOn 29 = .ok (.pop, 1) := by decide +kernel
theorem dX12_goOn_30 : decode cX12_goOn 30 = .ok (.goto 94, 3) := by decide +kernel
theorem dX12_goOn_33 : decode cX12_goOn 33 = .ok (.aload_n 0, 1) := by decide +kernel
theorem dX12_goOn_34 : decode cX12_goOn 34 = .ok (.getfield 304, 3) := by decide +kernel
theorem dX12_goOn_37 : decode cX12_goOn 37 = .ok (.aload_n 0, 1) := by decide +kernel
theorem dX12_goOn_38 : decode cX12_goOn 38 = .ok (.getfield 114, 3) := by decide +kernel
theorem dX12_goOn_41 : decode cX12_goOn 41 = .ok (.iload_n 1, 1) := by decide +kernel
theorem dX12_goOn_42 : decode cX12_goOn 42 = .ok (.iaload, 1) := by decide +kernel
theorem dX12_goOn_43 : decode cX12_goOn 43 = .ok (.isub, 1) := by decide +kernel
theorem dX12_goOn_44 : decode cX12_goOn 44 = .ok (.aload_n 0, 1) := by decide +kernel
theorem dX12_goOn_45 : decode cX12_goOn 45 = .ok (.getfield 90, 3) := by decide +kernel
theorem dX12_goOn_48 : decode cX12_goOn 48 = .ok (.iload_n 1, 1) := by decide +kernel
theorem dX12_goOn_49 : decode cX12_goOn 49 = .ok (.iaload, 1) := by decide +kernel
theorem dX12_goOn_50 : decode cX12_goOn 50 = .ok (.iconst 4, 1) := by decide +kernel
theorem dX12_goOn_51 : decode cX12_goOn 51 = .ok (.iadd, 1) := by decide +kernel
theorem dX12_goOn_52 : decode cX12_goOn 52 = .ok (.iconst 1, 1) := by decide +kernel
theorem dX12_goOn_53 : decode cX12_goOn 53 = .ok (.aload_n 0, 1) := by decide +kernel
theorem dX12_goOn_54 : decode cX12_goOn 54 = .ok (.getfield 102, 3) := by decide +kernel
theorem dX12_goOn_57 : decode cX12_goOn 57 = .ok (.iload_n 1, 1) := by decide +kernel
theorem dX12_goOn_58 : decode cX12_goOn 58 = .ok (.iaload, 1) := by decide +kernel
theorem dX12_goOn_59 : decode cX12_goOn 59 = .ok (.ishl, 1) := by decide +kernel
theorem dX12_goOn_60 : decode cX12_goOn 60 = .ok (.iadd, 1) := by decide +kernel
theorem dX12_goOn_61 : decode cX12_goOn 61 = .ok (.if_icmp .lt 63, 3) := by decide +kernel
theorem dX12_goOn_64 : decode cX12_goOn 64 = .ok (.aload_n 0, 1) := by decide +kernel
theorem dX12_goOn_65 : decode cX12_goOn 65 = .ok (.getfield 96, 3) := by decide +kernel
theorem dX12_goOn_68 : decode cX12_goOn 68 = .ok (.iload_n 1, 1) := by decide +kernel
theorem dX12_goOn_69 : decode cX12_goOn 69 = .ok (.iaload, 1) := by decide +kernel
theorem dX12_goOn_70 : decode cX12_goOn 70 = .ok (.ifCond .ne 11, 3) := by decide +kernel
theorem dX12_goOn_73 : decode cX12_goOn 73 = .ok (.aload_n 0, 1) := by decide +kernel
theorem dX12_goOn_74 : decode cX12_goOn 74 = .ok (.iload_n 1, 1) := by decide +kernel
theorem dX12_goOn_75 : decode cX12_goOn 75 = .ok (.bipush 7, 2) := by decide +kernel
theorem dX12_goOn_77 : decode cX12_goOn 77 = .ok (.invokevirtual 344, 3) := by decide +kernel
theorem dX12_goOn_80 : decode cX12_goOn 80 = .ok (.return_, 1) := by decide +kernel
theorem dX12_goOn_81 : decode cX12_goOn 81 = .ok (.aload_n 0, 1) := by decide +kernel
theorem dX12_goOn_82 : decode cX12_goOn 82 = .ok (.getfield 96, 3) := by decide +kernel
theorem dX12_goOn_85 : decode cX12_goOn 85 = .ok (.iload_n 1, 1) := by decide +kernel
theorem dX12_goOn_86 : decode cX12_goOn 86 = .ok (.dup2, 1) := by decide +kernel
theorem dX12_goOn_87 : decode cX12_goOn 87 = .ok (.iaload, 1) := by decide +kernel
theorem dX12_goOn_88 : decode cX12_goOn 88 = .ok (.iconst 1, 1) := by decide +kernel
theorem dX12_goOn_89 : decode cX12_goOn 89 = .ok (.isub, 1) := by decide +kernel
theorem dX12_goOn_90 : decode cX12_goOn 90 = .ok (.iastore, 1) := by decide +kernel
theorem dX12_goOn_91 : decode cX12_goOn 91 = .ok (.aload_n 0, 1) := by decide +kernel
theorem dX12_goOn_92 : decode cX12_goOn 92 = .ok (.getfield 102, 3) := by decide +kernel
theorem dX12_goOn_95 : decode cX12_goOn 95 = .ok (.iload_n 1, 1) := by decide +kernel
theorem dX12_goOn_96 : decode cX12_goOn 96 = .ok (.dup2, 1) := by decide +kernel
theorem dX12_goOn_97 : decode cX12_goOn 97 = .ok (.iaload, 1) := by decide +kernel
theorem dX12_goOn_98 : decode cX12_goOn 98 = .ok (.iconst 1, 1) := by decide +kernel
theorem dX12_goOn_99 : decode cX12_goOn 99 = .ok (.iadd, 1) := by decide +kernel
theorem dX12_goOn_100 : decode cX12_goOn 100 = .ok (.iastore, 1) := by decide +kernel
theorem dX12_goOn_101 : decode cX12_goOn 101 = .ok (.aload_n 0, 1) := by decide +kernel
theorem dX12_goOn_102 : decode cX12_goOn 102 = .ok (.getfield 114, 3) := by decide +kernel
theorem dX12_goOn_105 : decode cX12_goOn 105 = .ok (.iload_n 1, 1) := by decide +kernel
theorem dX12_goOn_106 : decode cX12_goOn 106 = .ok (.aload_n 0, 1) := by decide +kernel
theorem dX12_goOn_107 : decode cX12_goOn 107 = .ok (.getfield 304, 3) := by decide +kernel
theorem dX12_goOn_110 : decode cX12_goOn 110 = .ok (.iastore, 1) := by decide +kernel
theorem dX12_goOn_111 : decode cX12_goOn 111 = .ok (.aload_n 0, 1) := by decide +kernel
theorem dX12_goOn_112 : decode cX12_goOn 112 = .ok (.iload_n 1, 1) := by decide +kernel
theorem dX12_goOn_113 : decode cX12_goOn 113 = .ok (.iconst 1, 1) := by decide +kernel
theorem dX12_goOn_114 : decode cX12_goOn 114 = .ok (.aload_n 0, 1) := by decide +kernel
theorem dX12_goOn_115 : decode cX12_goOn 115 = .ok (.getfield 102, 3) := by decide +kernel
theorem dX12_goOn_118 : decode cX12_goOn 118 = .ok (.iload_n 1, 1) := by decide +kernel
theorem dX12_goOn_119 : decode cX12_goOn 119 = .ok (.iaload, 1) := by decide +kernel
theorem dX12_goOn_120 : decode cX12_goOn 120 = .ok (.invokevirtual 314, 3) := by decide +kernel
theorem dX12_goOn_123 : decode cX12_goOn 123 = .ok (.pop, 1) := by decide +kernel
theorem dX12_goOn_124 : decode cX12_goOn 124 = .ok (.return_, 1) := by decide +kernel
theorem dX12_share_0 : decode cX12_share 0 = .ok (.iconst 0, 1) := by decide +kernel
theorem dX12_share_1 : decode cX12_share 1 = .ok (.istore_n 1, 1) := by decide +kernel
theorem dX12_share_2 : decode cX12_share 2 = .ok (.iload_n 1, 1) := by decide +kernel
theorem dX12_share_3 : decode cX12_share 3 = .ok (.aload_n 0, 1) := by decide +kernel
theorem dX12_share_4 : decode cX12_share 4 = .ok (.getfield 311, 3) := by decide +kernel
theorem dX12_share_7 : decode cX12_share 7 = .ok (.if_icmp .ge 105, 3) := by decide +kernel
theorem dX12_share_10 : decode cX12_share 10 = .ok (.iconst 0, 1) := by decide +kernel
theorem dX12_share_11 : decode cX12_share 11 = .ok (.istore_n 2, 1) := by decide +kernel
theorem dX12_share_12 : decode cX12_share 12 = .ok (.iconst 0, 1) := by decide +kernel
theorem dX12_share_13 : decode cX12_share 13 = .ok (.istore_n 3, 1) := by decide +kernel
theorem dX12_share_14 : decode cX12_share 14 = .ok (.iload_n 3, 1) := by decide +kernel
theorem dX12_share_15 : decode cX12_share 15 = .ok (.aload_n 0, 1) := by decide +kernel
theorem dX12_share_16 : decode cX12_share 16 = .ok (.getfield 301, 3) := by decide +kernel
theorem dX12_share_19 : decode cX12_share 19 = .ok (.if_icmp .ge 38, 3) := by decide +kernel
theorem dX12_share_22 : decode cX12_share 22 = .ok (.iload_n 2, 1) := by decide +kernel
theorem dX12_share_23 : decode cX12_share 23 = .ok (.ifCond .ne 22, 3) := by decide +kernel
theorem dX12_share_26 : decode cX12_share 26 = .ok (.aload_n 0, 1) := by decide +kernel
theorem dX12_share_27 : decode cX12_share 27 = .ok (.getfield 150, 3) := by decide +kernel
theorem dX12_share_30 : decode cX12_share 30 = .ok (.iload_n 3, 1) := by decide +kernel
theorem dX12_share_31 : decode cX12_share 31 = .ok (.iaload, 1) := by decide +kernel
theorem dX12_share_32 : decode cX12_share 32 = .ok (.ifCond .ne 17, 3) := by decide +kernel
theorem dX12_share_35 : decode cX12_share 35 = .ok (.aload_n 0, 1) := by decide +kernel
theorem dX12_share_36 : decode cX12_share 36 = .ok (.getfield 153, 3) := by decide +kernel
theorem dX12_share_39 : decode cX12_share 39 = .ok (.iload_n 3, 1) := by decide +kernel
theorem dX12_share_40 : decode cX12_share 40 = .ok (.iaload, 1) := by decide +kernel
theorem dX12_share_41 : decode cX12_share 41 = .ok (.iload_n 1, 1) := by decide +kernel
theorem dX12_share_42 : decode cX12_share 42 = .ok (.if_icmp .ne 7, 3) := by decide +kernel
theorem dX12_share_45 : decode cX12_share 45 = .ok (.iconst 1, 1) := by decide +kernel
theorem dX12_share_46 : decode cX12_share 46 = .ok (.goto 4, 3) := by decide +kernel
theorem dX12_share_49 : decode cX12_share 49 = .ok (.iconst 0, 1) := by decide +kernel
theorem dX12_share_50 : decode cX12_share 50 = .ok (.istore_n 2, 1) := by decide +kernel
theorem dX12_share_51 : decode cX12_share 51 = .ok (.iinc 3 1, 3) := by decide +kernel
theorem dX12_share_54 : decode cX12_share 54 = .ok (.goto (-40), 3) := by decide +kernel
theorem dX12_share_57 : decode cX12_share 57 = .ok (.aload_n 0, 1) := by decide +kernel
theorem dX12_share_58 : decode cX12_share 58 = .ok (.getfield 99, 3) := by decide +kernel
theorem dX12_share_61 : decode cX12_share 61 = .ok (.iload_n 1, 1) := by decide +kernel
theorem dX12_share_62 : decode cX12_share 62 = .ok (.iaload, 1) := by decide +kernel
theorem dX12_share_63 : decode cX12_share 63 = .ok (.ifCond .ne 43, 3) := by decide +kernel
theorem dX12_share_66 : decode cX12_share 66 = .ok (.aload_n 0, 1) := by decide +kernel
theorem dX12_share_67 : decode cX12_share 67 = .ok (.getfield 126, 3) := by decide +kernel
theorem dX12_share_70 : decode cX12_share 70 = .ok (.iconst 4, 1) := by decide +kernel
theorem dX12_share_71 : decode cX12_share 71 = .ok (.iload_n 1, 1) := by decide +kernel
theorem dX12_share_72 : decode cX12_share 72 = .ok (.imul, 1) := by decide +kernel
theorem dX12_share_73 : decode cX12_share 73 = .ok (.aload_n 0, 1) := by decide +kernel
theorem dX12_share_74 : decode cX12_share 74 = .ok (.getfield 117, 3) := by decide +kernel
theorem dX12_share_77 : decode cX12_share 77 = .ok (.iload_n 1, 1) := by decide +kernel
theorem dX12_share_78 : decode cX12_share 78 = .ok (.iaload, 1) := by decide +kernel
theorem dX12_share_79 : decode cX12_share 79 = .ok (.ifCond .eq 12, 3) := by decide +kernel
theorem dX12_share_82 : decode cX12_share 82 = .ok (.aload_n 0, 1) := by decide +kernel
theorem dX12_share_83 : decode cX12_share 83 = .ok (.getfield 117, 3) := by decide +kernel
theorem dX12_share_86 : decode cX12_share 86 = .ok (.iload_n 1, 1) := by decide +kernel
theorem dX12_share_87 : decode cX12_share 87 = .ok (.iaload, 1) := by decide +kernel
theorem dX12_share_88 : decode cX12_share 88 = .ok (.goto 12, 3) := by decide +kernel
theorem dX12_share_91 : decode cX12_share 91 = .ok (.iload_n 2, 1) := by decide +kernel
theorem dX12_share_92 : decode cX12_share 92 = .ok (.ifCond .eq 7, 3) := by decide +kernel
theorem dX12_share_95 : decode cX12_share 95 = .ok (.iconst 0, 1) := by decide +kernel
theorem dX12_share_96 : decode cX12_share 96 = .ok (.goto 4, 3) := by decide +kernel
theorem dX12_share_99 : decode cX12_share 99 = .ok (.iconst 3, 1) := by decide +kernel
theorem dX12_share_100 : decode cX12_share 100 = .ok (.iadd, 1) := by decide +kernel
theorem dX12_share_101 : decode cX12_share 101 = .ok (.dup2, 1) := by decide +kernel
theorem dX12_share_102 : decode cX12_share 102 = .ok (.iaload, 1) := by decide +kernel
theorem dX12_share_103 : decode cX12_share 103 = .ok (.iconst 1, 1) := by decide +kernel
theorem dX12_share_104 : decode cX12_share 104 = .ok (.iadd, 1) := by decide +kernel
theorem dX12_share_105 : decode cX12_share 105 = .ok (.iastore, 1) := by decide +kernel
theorem dX12_share_106 : decode cX12_share 106 = .ok (.iinc 1 1, 3) := by decide +kernel
theorem dX12_share_109 : decode cX12_share 109 = .ok (.goto (-107), 3) := by decide +kernel
theorem dX12_share_112 : decode cX12_share 112 = .ok (.return_, 1) := by decide +kernel
theorem dX12_oneTick_0 : decode cX12_oneTick 0 = .ok (.aload_n 0, 1) := by decide +kernel
theorem dX12_oneTick_1 : decode cX12_oneTick 1 = .ok (.invokevirtual 347, 3) := by decide +kernel
theorem dX12_oneTick_4 : decode cX12_oneTick 4 = .ok (.aload_n 0, 1) := by decide +kernel
theorem dX12_oneTick_5 : decode cX12_oneTick 5 = .ok (.dup, 1) := by decide +kernel
theorem dX12_oneTick_6 : decode cX12_oneTick 6 = .ok (.getfield 304, 3) := by decide +kernel
theorem dX12_oneTick_9 : decode cX12_oneTick 9 = .ok (.iconst 1, 1) := by decide +kernel
theorem dX12_oneTick_10 : decode cX12_oneTick 10 = .ok (.iadd, 1) := by decide +kernel
theorem dX12_oneTick_11 : decode cX12_oneTick 11 = .ok (.putfield 304, 3) := by decide +kernel
theorem dX12_oneTick_14 : decode cX12_oneTick 14 = .ok (.iconst 0, 1) := by decide +kernel
theorem dX12_oneTick_15 : decode cX12_oneTick 15 = .ok (.istore_n 1, 1) := by decide +kernel
theorem dX12_oneTick_16 : decode cX12_oneTick 16 = .ok (.aload_n 0, 1) := by decide +kernel
theorem dX12_oneTick_17 : decode cX12_oneTick 17 = .ok (.getfield 301, 3) := by decide +kernel
theorem dX12_oneTick_20 : decode cX12_oneTick 20 = .ok (.istore_n 2, 1) := by decide +kernel
theorem dX12_oneTick_21 : decode cX12_oneTick 21 = .ok (.iconst 0, 1) := by decide +kernel
theorem dX12_oneTick_22 : decode cX12_oneTick 22 = .ok (.istore_n 3, 1) := by decide +kernel
theorem dX12_oneTick_23 : decode cX12_oneTick 23 = .ok (.iload_n 3, 1) := by decide +kernel
theorem dX12_oneTick_24 : decode cX12_oneTick 24 = .ok (.iload_n 2, 1) := by decide +kernel
theorem dX12_oneTick_25 : decode cX12_oneTick 25 = .ok (.if_icmp .ge 65, 3) := by decide +kernel
theorem dX12_oneTick_28 : decode cX12_oneTick 28 = .ok (.aload_n 0, 1) := by decide +kernel
theorem dX12_oneTick_29 : decode cX12_oneTick 29 = .ok (.getfield 150, 3) := by decide +kernel
theorem dX12_oneTick_32 : decode cX12_oneTick 32 = .ok (.iload_n 3, 1) := by decide +kernel
theorem dX12_oneTick_33 : decode cX12_oneTick 33 = .ok (.iaload, 1) := by decide +kernel
theorem dX12_oneTick_34 : decode cX12_oneTick 34 = .ok (.ifCond .ne 50, 3) := by decide +kernel
theorem dX12_oneTick_37 : decode cX12_oneTick 37 = .ok (.aload_n 0, 1) := by decide +kernel
theorem dX12_oneTick_38 : decode cX12_oneTick 38 = .ok (.aload_n 0, 1) := by decide +kernel
theorem dX12_oneTick_39 : decode cX12_oneTick 39 = .ok (.getfield 141, 3) := by decide +kernel
theorem dX12_oneTick_42 : decode cX12_oneTick 42 = .ok (.iload_n 3, 1) := by decide +kernel
theorem dX12_oneTick_43 : decode cX12_oneTick 43 = .ok (.iaload, 1) := by decide +kernel
theorem dX12_oneTick_44 : decode cX12_oneTick 44 = .ok (.aload_n 0, 1) := by decide +kernel
theorem dX12_oneTick_45 : decode cX12_oneTick 45 = .ok (.getfield 144, 3) := by decide +kernel
theorem dX12_oneTick_48 : decode cX12_oneTick 48 = .ok (.iload_n 3, 1) := by decide +kernel
theorem dX12_oneTick_49 : decode cX12_oneTick 49 = .ok (.iaload, 1) := by decide +kernel
theorem dX12_oneTick_50 : decode cX12_oneTick 50 = .ok (.invokevirtual 350, 3) := by decide +kernel
theorem dX12_oneTick_53 : decode cX12_oneTick 53 = .ok (.istore 4, 2) := by decide +kernel
theorem dX12_oneTick_55 : decode cX12_oneTick 55 = .ok (.aload_n 0, 1) := by decide +kernel
theorem dX12_oneTick_56 : decode cX12_oneTick 56 = .ok (.getfield 150, 3) := by decide +kernel
theorem dX12_oneTick_59 : decode cX12_oneTick 59 = .ok (.iload_n 3, 1) := by decide +kernel
theorem dX12_oneTick_60 : decode cX12_oneTick 60 = .ok (.iload 4, 2) := by decide +kernel
theorem dX12_oneTick_62 : decode cX12_oneTick 62 = .ok (.ifCond .eq 7, 3) := by decide +kernel
theorem dX12_oneTick_65 : decode cX12_oneTick 65 = .ok (.iconst 2, 1) := by decide +kernel
theorem dX12_oneTick_66 : decode cX12_oneTick 66 = .ok (.goto 4, 3) := by decide +kernel
theorem dX12_oneTick_69 : decode cX12_oneTick 69 = .ok (.iconst 1, 1) := by decide +kernel
theorem dX12_oneTick_70 : decode cX12_oneTick 70 = .ok (.iastore, 1) := by decide +kernel
theorem dX12_oneTick_71 : decode cX12_oneTick 71 = .ok (.iload 4, 2) := by decide +kernel
theorem dX12_oneTick_73 : decode cX12_oneTick 73 = .ok (.ifCond .ne 11, 3) := by decide +kernel
theorem dX12_oneTick_76 : decode cX12_oneTick 76 = .ok (.iinc 1 1, 3) := by decide +kernel
theorem dX12_oneTick_79 : decode cX12_oneTick 79 = .ok (.aload_n 0, 1) := by decide +kernel
theorem dX12_oneTick_80 : decode cX12_oneTick 80 = .ok (.iload_n 3, 1) := by decide +kernel
theorem dX12_oneTick_81 : decode cX12_oneTick 81 = .ok (.invokevirtual 353, 3) := by decide +kernel
theorem dX12_oneTick_84 : decode cX12_oneTick 84 = .ok (.iinc 3 1, 3) := by decide +kernel
theorem dX12_oneTick_87 : decode cX12_oneTick 87 = .ok (.goto (-64), 3) := by decide +kernel
theorem dX12_oneTick_90 : decode cX12_oneTick 90 = .ok (.iconst 0, 1) := by decide +kernel
theorem dX12_oneTick_91 : decode cX12_oneTick 91 = .ok (.istore_n 3, 1) := by decide +kernel
theorem dX12_oneTick_92 : decode cX12_oneTick 92 = .ok (.iload_n 3, 1) := by decide +kernel
theorem dX12_oneTick_93 : decode cX12_oneTick 93 = .ok (.bipush 6, 2) := by decide +kernel
theorem dX12_oneTick_95 : decode cX12_oneTick 95 = .ok (.if_icmp .ge 14, 3) := by decide +kernel
theorem dX12_oneTick_98 : decode cX12_oneTick 98 = .ok (.aload_n 0, 1) := by decide +kernel
theorem dX12_oneTick_99 : decode cX12_oneTick 99 = .ok (.iload_n 3, 1) := by decide +kernel
theorem dX12_oneTick_100 : decode cX12_oneTick 100 = .ok (.invokevirtual 356, 3) := by decide +kernel
theorem dX12_oneTick_103 : decode cX12_oneTick 103 = .ok (.iinc 3 1, 3) := by decide +kernel
theorem dX12_oneTick_106 : decode cX12_oneTick 106 = .ok (.goto (-14), 3) := by decide +kernel
theorem dX12_oneTick_109 : decode cX12_oneTick 109 = .ok (.iconst 0, 1) := by decide +kernel
theorem dX12_oneTick_110 : decode cX12_oneTick 110 = .ok (.istore_n 3, 1) := by decide +kernel
theorem dX12_oneTick_111 : decode cX12_oneTick 111 = .ok (.iload_n 3, 1) := by decide +kernel
theorem dX12_oneTick_112 : decode cX12_oneTick 112 = .ok (.bipush 6, 2) := by decide +kernel
theorem dX12_oneTick_114 : decode cX12_oneTick 114 = .ok (.if_icmp .ge 14, 3) := by decide +kernel
theorem dX12_oneTick_117 : decode cX12_oneTick 117 = .ok (.aload_n 0, 1) := by decide +kernel
theorem dX12_oneTick_118 : decode cX12_oneTick 118 = .ok (.iload_n 3, 1) := by decide +kernel
theorem dX12_oneTick_119 : decode cX12_oneTick 119 = .ok (.invokevirtual 359, 3) := by decide +kernel
theorem dX12_oneTick_122 : decode cX12_oneTick 122 = .ok (.iinc 3 1, 3) := by decide +kernel
theorem dX12_oneTick_125 : decode cX12_oneTick 125 = .ok (.goto (-14), 3) := by decide +kernel
theorem dX12_oneTick_128 : decode cX12_oneTick 128 = .ok (.iconst 0, 1) := by decide +kernel
theorem dX12_oneTick_129 : decode cX12_oneTick 129 = .ok (.istore_n 3, 1) := by decide +kernel
theorem dX12_oneTick_130 : decode cX12_oneTick 130 = .ok (.iload_n 3, 1) := by decide +kernel
theorem dX12_oneTick_131 : decode cX12_oneTick 131 = .ok (.aload_n 0, 1) := by decide +kernel
theorem dX12_oneTick_132 : decode cX12_oneTick 132 = .ok (.getfield 311, 3) := by decide +kernel
theorem dX12_oneTick_135 : decode cX12_oneTick 135 = .ok (.if_icmp .ge 23, 3) := by decide +kernel
theorem dX12_oneTick_138 : decode cX12_oneTick 138 = .ok (.aload_n 0, 1) := by decide +kernel
theorem dX12_oneTick_139 : decode cX12_oneTick 139 = .ok (.getfield 99, 3) := by decide +kernel
theorem dX12_oneTick_142 : decode cX12_oneTick 142 = .ok (.iload_n 3, 1) := by decide +kernel
theorem dX12_oneTick_143 : decode cX12_oneTick 143 = .ok (.iaload, 1) := by decide +kernel
theorem dX12_oneTick_144 : decode cX12_oneTick 144 = .ok (.ifCond .ne 8, 3) := by decide +kernel
theorem dX12_oneTick_147 : decode cX12_oneTick 147 = .ok (.aload_n 0, 1) := by decide +kernel
theorem dX12_oneTick_148 : decode cX12_oneTick 148 = .ok (.iload_n 3, 1) := by decide +kernel
theorem dX12_oneTick_149 : decode cX12_oneTick 149 = .ok (.invokevirtual 362, 3) := by decide +kernel
theorem dX12_oneTick_152 : decode cX12_oneTick 152 = .ok (.iinc 3 1, 3) := by decide +kernel
theorem dX12_oneTick_155 : decode cX12_oneTick 155 = .ok (.goto (-25), 3) := by decide +kernel
theorem dX12_oneTick_158 : decode cX12_oneTick 158 = .ok (.iload_n 1, 1) := by decide +kernel
theorem dX12_oneTick_159 : decode cX12_oneTick 159 = .ok (.ireturn, 1) := by decide +kernel
theorem dX12_tick_0 : decode cX12_tick 0 = .ok (.aload_n 0, 1) := by decide +kernel
theorem dX12_tick_1 : decode cX12_tick 1 = .ok (.getfield 304, 3) := by decide +kernel
theorem dX12_tick_4 : decode cX12_tick 4 = .ok (.sipush 9999, 3) := by decide +kernel
theorem dX12_tick_7 : decode cX12_tick 7 = .ok (.if_icmp .ne 8, 3) := by decide +kernel
theorem dX12_tick_10 : decode cX12_tick 10 = .ok (.bipush (-4), 2) := by decide +kernel
theorem dX12_tick_12 : decode cX12_tick 12 = .ok (.goto 7, 3) := by decide +kernel
theorem dX12_tick_15 : decode cX12_tick 15 = .ok (.aload_n 0, 1) := by decide +kernel
theorem dX12_tick_16 : decode cX12_tick 16 = .ok (.invokevirtual 365, 3) := by decide +kernel
theorem dX12_tick_19 : decode cX12_tick 19 = .ok (.ireturn, 1) := by decide +kernel
theorem dX12_run_0 : decode cX12_run 0 = .ok (.iload_n 1, 1) := by decide +kernel
theorem dX12_run_1 : decode cX12_run 1 = .ok (.iconst 0, 1) := by decide +kernel
theorem dX12_run_2 : decode cX12_run 2 = .ok (.bipush 100, 2) := by decide +kernel
theorem dX12_run_4 : decode cX12_run 4 = .ok (.invokestatic 175, 3) := by decide +kernel
theorem dX12_run_7 : decode cX12_run 7 = .ok (.ifCond .ne 5, 3) := by decide +kernel
theorem dX12_run_10 : decode cX12_run 10 = .ok (.iconst (-1), 1) := by decide +kernel
theorem dX12_run_11 : decode cX12_run 11 = .ok (.ireturn, 1) := by decide +kernel
theorem dX12_run_12 : decode cX12_run 12 = .ok (.aload_n 0, 1) := by decide +kernel
theorem dX12_run_13 : decode cX12_run 13 = .ok (.getfield 304, 3) := by decide +kernel
theorem dX12_run_16 : decode cX12_run 16 = .ok (.iload_n 1, 1) := by decide +kernel
theorem dX12_run_17 : decode cX12_run 17 = .ok (.iadd, 1) := by decide +kernel
theorem dX12_run_18 : decode cX12_run 18 = .ok (.sipush 9999, 3) := by decide +kernel
theorem dX12_run_21 : decode cX12_run 21 = .ok (.if_icmp .le 6, 3) := by decide +kernel
theorem dX12_run_24 : decode cX12_run 24 = .ok (.bipush (-4), 2) := by decide +kernel
theorem dX12_run_26 : decode cX12_run 26 = .ok (.ireturn, 1) := by decide +kernel
theorem dX12_run_27 : decode cX12_run 27 = .ok (.iconst 0, 1) := by decide +kernel
theorem dX12_run_28 : decode cX12_run 28 = .ok (.istore_n 2, 1) := by decide +kernel
theorem dX12_run_29 : decode cX12_run 29 = .ok (.iconst 0, 1) := by decide +kernel
theorem dX12_run_30 : decode cX12_run 30 = .ok (.istore_n 3, 1) := by decide +kernel
theorem dX12_run_31 : decode cX12_run 31 = .ok (.iload_n 3, 1) := by decide +kernel
theorem dX12_run_32 : decode cX12_run 32 = .ok (.iload_n 1, 1) := by decide +kernel
theorem dX12_run_33 : decode cX12_run 33 = .ok (.if_icmp .ge 16, 3) := by decide +kernel
theorem dX12_run_36 : decode cX12_run 36 = .ok (.iload_n 2, 1) := by decide +kernel
theorem dX12_run_37 : decode cX12_run 37 = .ok (.aload_n 0, 1) := by decide +kernel
theorem dX12_run_38 : decode cX12_run 38 = .ok (.invokevirtual 365, 3) := by decide +kernel
theorem dX12_run_41 : decode cX12_run 41 = .ok (.iadd, 1) := by decide +kernel
theorem dX12_run_42 : decode cX12_run 42 = .ok (.istore_n 2, 1) := by decide +kernel
theorem dX12_run_43 : decode cX12_run 43 = .ok (.iinc 3 1, 3) := by decide +kernel
theorem dX12_run_46 : decode cX12_run 46 = .ok (.goto (-15), 3) := by decide +kernel
theorem dX12_run_49 : decode cX12_run 49 = .ok (.iload_n 2, 1) := by decide +kernel
theorem dX12_run_50 : decode cX12_run 50 = .ok (.ireturn, 1) := by decide +kernel
theorem dX12_isCall_0 : decode cX12_isCall 0 = .ok (.iload_n 1, 1) := by decide +kernel
theorem dX12_isCall_1 : decode cX12_isCall 1 = .ok (.iconst 0, 1) := by decide +kernel
theorem dX12_isCall_2 : decode cX12_isCall 2 = .ok (.aload_n 0, 1) := by decide +kernel
theorem dX12_isCall_3 : decode cX12_isCall 3 = .ok (.getfield 311, 3) := by decide +kernel
theorem dX12_isCall_6 : decode cX12_isCall 6 = .ok (.iconst 1, 1) := by decide +kernel
theorem dX12_isCall_7 : decode cX12_isCall 7 = .ok (.isub, 1) := by decide +kernel
theorem dX12_isCall_8 : decode cX12_isCall 8 = .ok (.invokestatic 175, 3) := by decide +kernel
theorem dX12_isCall_11 : decode cX12_isCall 11 = .ok (.ireturn, 1) := by decide +kernel
theorem dX12_cancel_0 : decode cX12_cancel 0 = .ok (.aload_n 0, 1) := by decide +kernel
theorem dX12_cancel_1 : decode cX12_cancel 1 = .ok (.iload_n 1, 1) := by decide +kernel
theorem dX12_cancel_2 : decode cX12_cancel 2 = .ok (.invokevirtual 368, 3) := by decide +kernel
theorem dX12_cancel_5 : decode cX12_cancel 5 = .ok (.ifCond .ne 5, 3) := by decide +kernel
theorem dX12_cancel_8 : decode cX12_cancel 8 = .ok (.iconst (-1), 1) := by decide +kernel
theorem dX12_cancel_9 : decode cX12_cancel 9 = .ok (.ireturn, 1) := by decide +kernel
theorem dX12_cancel_10 : decode cX12_cancel 10 = .ok (.aload_n 0, 1) := by decide +kernel
theorem dX12_cancel_11 : decode cX12_cancel 11 = .ok (.getfield 99, 3) := by decide +kernel
theorem dX12_cancel_14 : decode cX12_cancel 14 = .ok (.iload_n 1, 1) := by decide +kernel
theorem dX12_cancel_15 : decode cX12_cancel 15 = .ok (.iaload, 1) := by decide +kernel
theorem dX12_cancel_16 : decode cX12_cancel 16 = .ok (.ifCond .eq 6, 3) := by decide +kernel
theorem dX12_cancel_19 : decode cX12_cancel 19 = .ok (.bipush (-4), 2) := by decide +kernel
theorem dX12_cancel_21 : decode cX12_cancel 21 = .ok (.ireturn, 1) := by decide +kernel
theorem dX12_cancel_22 : decode cX12_cancel 22 = .ok (.aload_n 0, 1) := by decide +kernel
theorem dX12_cancel_23 : decode cX12_cancel 23 = .ok (.iload_n 1, 1) := by decide +kernel
theorem dX12_cancel_24 : decode cX12_cancel 24 = .ok (.iconst 5, 1) := by decide +kernel
theorem dX12_cancel_25 : decode cX12_cancel 25 = .ok (.invokevirtual 344, 3) := by decide +kernel
theorem dX12_cancel_28 : decode cX12_cancel 28 = .ok (.aload_n 0, 1) := by decide +kernel
theorem dX12_cancel_29 : decode cX12_cancel 29 = .ok (.iload_n 1, 1) := by decide +kernel
theorem dX12_cancel_30 : decode cX12_cancel 30 = .ok (.bipush 6, 2) := by decide +kernel
theorem dX12_cancel_32 : decode cX12_cancel 32 = .ok (.iconst 5, 1) := by decide +kernel
theorem dX12_cancel_33 : decode cX12_cancel 33 = .ok (.invokevirtual 314, 3) := by decide +kernel
theorem dX12_cancel_36 : decode cX12_cancel 36 = .ok (.pop, 1) := by decide +kernel
theorem dX12_cancel_37 : decode cX12_cancel 37 = .ok (.iconst 1, 1) := by decide +kernel
theorem dX12_cancel_38 : decode cX12_cancel 38 = .ok (.ireturn, 1) := by decide +kernel
theorem dX12_callTells_0 : decode cX12_callTells 0 = .ok (.iload_n 2, 1) := by decide +kernel
theorem dX12_callTells_1 : decode cX12_callTells 1 = .ok (.tableswitch 81 0 5 #[39, 46, 53, 60, 67, 74], 39) := by decide +kernel
theorem dX12_callTells_40 : decode cX12_callTells 40 = .ok (.aload_n 0, 1) := by decide +kernel
theorem dX12_callTells_41 : decode cX12_callTells 41 = .ok (.getfield 99, 3) := by decide +kernel
theorem dX12_callTells_44 : decode cX12_callTells 44 = .ok (.iload_n 1, 1) := by decide +kernel
theorem dX12_callTells_45 : decode cX12_callTells 45 = .ok (.iaload, 1) := by decide +kernel
theorem dX12_callTells_46 : decode cX12_callTells 46 = .ok (.ireturn, 1) := by decide +kernel
theorem dX12_callTells_47 : decode cX12_callTells 47 = .ok (.aload_n 0, 1) := by decide +kernel
theorem dX12_callTells_48 : decode cX12_callTells 48 = .ok (.getfield 102, 3) := by decide +kernel
theorem dX12_callTells_51 : decode cX12_callTells 51 = .ok (.iload_n 1, 1) := by decide +kernel
theorem dX12_callTells_52 : decode cX12_callTells 52 = .ok (.iaload, 1) := by decide +kernel
theorem dX12_callTells_53 : decode cX12_callTells 53 = .ok (.ireturn, 1) := by decide +kernel
theorem dX12_callTells_54 : decode cX12_callTells 54 = .ok (.aload_n 0, 1) := by decide +kernel
theorem dX12_callTells_55 : decode cX12_callTells 55 = .ok (.getfield 96, 3) := by decide +kernel
theorem dX12_callTells_58 : decode cX12_callTells 58 = .ok (.iload_n 1, 1) := by decide +kernel
theorem dX12_callTells_59 : decode cX12_callTells 59 = .ok (.iaload, 1) := by decide +kernel
theorem dX12_callTells_60 : decode cX12_callTells 60 = .ok (.ireturn, 1) := by decide +kernel
theorem dX12_callTells_61 : decode cX12_callTells 61 = .ok (.aload_n 0, 1) := by decide +kernel
theorem dX12_callTells_62 : decode cX12_callTells 62 = .ok (.getfield 105, 3) := by decide +kernel
theorem dX12_callTells_65 : decode cX12_callTells 65 = .ok (.iload_n 1, 1) := by decide +kernel
theorem dX12_callTells_66 : decode cX12_callTells 66 = .ok (.iaload, 1) := by decide +kernel
theorem dX12_callTells_67 : decode cX12_callTells 67 = .ok (.ireturn, 1) := by decide +kernel
theorem dX12_callTells_68 : decode cX12_callTells 68 = .ok (.aload_n 0, 1) := by decide +kernel
theorem dX12_callTells_69 : decode cX12_callTells 69 = .ok (.getfield 108, 3) := by decide +kernel
theorem dX12_callTells_72 : decode cX12_callTells 72 = .ok (.iload_n 1, 1) := by decide +kernel
theorem dX12_callTells_73 : decode cX12_callTells 73 = .ok (.iaload, 1) := by decide +kernel
theorem dX12_callTells_74 : decode cX12_callTells 74 = .ok (.ireturn, 1) := by decide +kernel
theorem dX12_callTells_75 : decode cX12_callTells 75 = .ok (.aload_n 0, 1) := by decide +kernel
theorem dX12_callTells_76 : decode cX12_callTells 76 = .ok (.getfield 111, 3) := by decide +kernel
theorem dX12_callTells_79 : decode cX12_callTells 79 = .ok (.iload_n 1, 1) := by decide +kernel
theorem dX12_callTells_80 : decode cX12_callTells 80 = .ok (.iaload, 1) := by decide +kernel
theorem dX12_callTells_81 : decode cX12_callTells 81 = .ok (.ireturn, 1) := by decide +kernel
theorem dX12_callTells_82 : decode cX12_callTells 82 = .ok (.aload_n 0, 1) := by decide +kernel
theorem dX12_callTells_83 : decode cX12_callTells 83 = .ok (.getfield 117, 3) := by decide +kernel
theorem dX12_callTells_86 : decode cX12_callTells 86 = .ok (.iload_n 1, 1) := by decide +kernel
theorem dX12_callTells_87 : decode cX12_callTells 87 = .ok (.iaload, 1) := by decide +kernel
theorem dX12_callTells_88 : decode cX12_callTells 88 = .ok (.ireturn, 1) := by decide +kernel
theorem dX12_told_0 : decode cX12_told 0 = .ok (.aload_n 0, 1) := by decide +kernel
theorem dX12_told_1 : decode cX12_told 1 = .ok (.iload_n 1, 1) := by decide +kernel
theorem dX12_told_2 : decode cX12_told 2 = .ok (.invokevirtual 368, 3) := by decide +kernel
theorem dX12_told_5 : decode cX12_told 5 = .ok (.ifCond .eq 27, 3) := by decide +kernel
theorem dX12_told_8 : decode cX12_told 8 = .ok (.iload_n 2, 1) := by decide +kernel
theorem dX12_told_9 : decode cX12_told 9 = .ok (.iconst 0, 1) := by decide +kernel
theorem dX12_told_10 : decode cX12_told 10 = .ok (.bipush 6, 2) := by decide +kernel
theorem dX12_told_12 : decode cX12_told 12 = .ok (.invokestatic 175, 3) := by decide +kernel
theorem dX12_told_15 : decode cX12_told 15 = .ok (.ifCond .eq 17, 3) := by decide +kernel
theorem dX12_told_18 : decode cX12_told 18 = .ok (.aload_n 0, 1) := by decide +kernel
theorem dX12_told_19 : decode cX12_told 19 = .ok (.aload_n 0, 1) := by decide +kernel
theorem dX12_told_20 : decode cX12_told 20 = .ok (.iload_n 1, 1) := by decide +kernel
theorem dX12_told_21 : decode cX12_told 21 = .ok (.iload_n 2, 1) := by decide +kernel
theorem dX12_told_22 : decode cX12_told 22 = .ok (.invokevirtual 371, 3) := by decide +kernel
theorem dX12_told_25 : decode cX12_told 25 = .ok (.iconst 1, 1) := by decide +kernel
theorem dX12_told_26 : decode cX12_told 26 = .ok (.invokevirtual 194, 3) := by decide +kernel
theorem dX12_told_29 : decode cX12_told 29 = .ok (.goto 4, 3) := by decide +kernel
theorem dX12_told_32 : decode cX12_told 32 = .ok (.iconst (-1), 1) := by decide +kernel
theorem dX12_told_33 : decode cX12_told 33 = .ok (.ireturn, 1) := by decide +kernel
theorem dX12_where_0 : decode cX12_where 0 = .ok (.aload_n 0, 1) := by decide +kernel
theorem dX12_where_1 : decode cX12_where 1 = .ok (.iload_n 1, 1) := by decide +kernel
theorem dX12_where_2 : decode cX12_where 2 = .ok (.invokevirtual 368, 3) := by decide +kernel
theorem dX12_where_5 : decode cX12_where 5 = .ok (.ifCond .eq 25, 3) := by decide +kernel
theorem dX12_where_8 : decode cX12_where 8 = .ok (.iload_n 2, 1) := by decide +kernel
theorem dX12_where_9 : decode cX12_where 9 = .ok (.iconst 0, 1) := by decide +kernel
theorem dX12_where_10 : decode cX12_where 10 = .ok (.iconst 3, 1) := by decide +kernel
theorem dX12_where_11 : decode cX12_where 11 = .ok (.invokestatic 175, 3) := by decide +kernel
theorem dX12_where_14 : decode cX12_where 14 = .ok (.ifCond .eq 16, 3) := by decide +kernel
theorem dX12_where_17 : decode cX12_where 17 = .ok (.aload_n 0, 1) := by decide +kernel
theorem dX12_where_18 : decode cX12_where 18 = .ok (.getfield 126, 3) := by decide +kernel
theorem dX12_where_21 : decode cX12_where 21 = .ok (.iconst 4, 1) := by decide +kernel
theorem dX12_where_22 : decode cX12_where 22 = .ok (.iload_n 1, 1) := by decide +kernel
theorem dX12_where_23 : decode cX12_where 23 = .ok (.imul, 1) := by decide +kernel
theorem dX12_where_24 : decode cX12_where 24 = .ok (.iload_n 2, 1) := by decide +kernel
theorem dX12_where_25 : decode cX12_where 25 = .ok (.iadd, 1) := by decide +kernel
theorem dX12_where_26 : decode cX12_where 26 = .ok (.iaload, 1) := by decide +kernel
theorem dX12_where_27 : decode cX12_where 27 = .ok (.goto 4, 3) := by decide +kernel
theorem dX12_where_30 : decode cX12_where 30 = .ok (.iconst (-1), 1) := by decide +kernel
theorem dX12_where_31 : decode cX12_where 31 = .ok (.ireturn, 1) := by decide +kernel
theorem dX12_queue_0 : decode cX12_queue 0 = .ok (.iload_n 1, 1) := by decide +kernel
theorem dX12_queue_1 : decode cX12_queue 1 = .ok (.invokestatic 179, 3) := by decide +kernel
theorem dX12_queue_4 : decode cX12_queue 4 = .ok (.ifCond .eq 22, 3) := by decide +kernel
theorem dX12_queue_7 : decode cX12_queue 7 = .ok (.aload_n 0, 1) := by decide +kernel
theorem dX12_queue_8 : decode cX12_queue 8 = .ok (.aload_n 0, 1) := by decide +kernel
theorem dX12_queue_9 : decode cX12_queue 9 = .ok (.iload_n 1, 1) := by decide +kernel
theorem dX12_queue_10 : decode cX12_queue 10 = .ok (.iconst 2, 1) := by decide +kernel
theorem dX12_queue_11 : decode cX12_queue 11 = .ok (.invokevirtual 329, 3) := by decide +kernel
theorem dX12_queue_14 : decode cX12_queue 14 = .ok (.aload_n 0, 1) := by decide +kernel
theorem dX12_queue_15 : decode cX12_queue 15 = .ok (.iload_n 1, 1) := by decide +kernel
theorem dX12_queue_16 : decode cX12_queue 16 = .ok (.iconst 1, 1) := by decide +kernel
theorem dX12_queue_17 : decode cX12_queue 17 = .ok (.invokevirtual 329, 3) := by decide +kernel
theorem dX12_queue_20 : decode cX12_queue 20 = .ok (.invokevirtual 194, 3) := by decide +kernel
theorem dX12_queue_23 : decode cX12_queue 23 = .ok (.goto 4, 3) := by decide +kernel
theorem dX12_queue_26 : decode cX12_queue 26 = .ok (.iconst (-1), 1) := by decide +kernel
theorem dX12_queue_27 : decode cX12_queue 27 = .ok (.ireturn, 1) := by decide +kernel
theorem dX12_keptAt_0 : decode cX12_keptAt 0 = .ok (.iconst 0, 1) := by decide +kernel
theorem dX12_keptAt_1 : decode cX12_keptAt 1 = .ok (.istore_n 2, 1) := by decide +kernel
theorem dX12_keptAt_2 : decode cX12_keptAt 2 = .ok (.iconst 0, 1) := by decide +kernel
theorem dX12_keptAt_3 : decode cX12_keptAt 3 = .ok (.istore_n 3, 1) := by decide +kernel
theorem dX12_keptAt_4 : decode cX12_keptAt 4 = .ok (.iload_n 3, 1) := by decide +kernel
theorem dX12_keptAt_5 : decode cX12_keptAt 5 = .ok (.aload_n 0, 1) := by decide +kernel
theorem dX12_keptAt_6 : decode cX12_keptAt 6 = .ok (.getfield 311, 3) := by decide +kernel
theorem dX12_keptAt_9 : decode cX12_keptAt 9 = .ok (.if_icmp .ge 35, 3) := by decide +kernel
theorem dX12_keptAt_12 : decode cX12_keptAt 12 = .ok (.iload_n 2, 1) := by decide +kernel
theorem dX12_keptAt_13 : decode cX12_keptAt 13 = .ok (.aload_n 0, 1) := by decide +kernel
theorem dX12_keptAt_14 : decode cX12_keptAt 14 = .ok (.getfield 84, 3) := by decide +kernel
theorem dX12_keptAt_17 : decode cX12_keptAt 17 = .ok (.iload_n 3, 1) := by decide +kernel
theorem dX12_keptAt_18 : decode cX12_keptAt 18 = .ok (.iaload, 1) := by decide +kernel
theorem dX12_keptAt_19 : decode cX12_keptAt 19 = .ok (.iload_n 1, 1) := by decide +kernel
theorem dX12_keptAt_20 : decode cX12_keptAt 20 = .ok (.if_icmp .ne 15, 3) := by decide +kernel
theorem dX12_keptAt_23 : decode cX12_keptAt 23 = .ok (.aload_n 0, 1) := by decide +kernel
theorem dX12_keptAt_24 : decode cX12_keptAt 24 = .ok (.iload_n 3, 1) := by decide +kernel
theorem dX12_keptAt_25 : decode cX12_keptAt 25 = .ok (.invokevirtual 332, 3) := by decide +kernel
theorem dX12_keptAt_28 : decode cX12_keptAt 28 = .ok (.ifCond .eq 7, 3) := by decide +kernel
theorem dX12_keptAt_31 : decode cX12_keptAt 31 = .ok (.iconst 1, 1) := by decide +kernel
theorem dX12_keptAt_32 : decode cX12_keptAt 32 = .ok (.goto 4, 3) := by decide +kernel
theorem dX12_keptAt_35 : decode cX12_keptAt 35 = .ok (.iconst 0, 1) := by decide +kernel
theorem dX12_keptAt_36 : decode cX12_keptAt 36 = .ok (.iadd, 1) := by decide +kernel
theorem dX12_keptAt_37 : decode cX12_keptAt 37 = .ok (.istore_n 2, 1) := by decide +kernel
theorem dX12_keptAt_38 : decode cX12_keptAt 38 = .ok (.iinc 3 1, 3) := by decide +kernel
theorem dX12_keptAt_41 : decode cX12_keptAt 41 = .ok (.goto (-37), 3) := by decide +kernel
theorem dX12_keptAt_44 : decode cX12_keptAt 44 = .ok (.iload_n 2, 1) := by decide +kernel
theorem dX12_keptAt_45 : decode cX12_keptAt 45 = .ok (.ireturn, 1) := by decide +kernel
theorem dX12_kept_0 : decode cX12_kept 0 = .ok (.iload_n 1, 1) := by decide +kernel
theorem dX12_kept_1 : decode cX12_kept 1 = .ok (.invokestatic 179, 3) := by decide +kernel
theorem dX12_kept_4 : decode cX12_kept 4 = .ok (.ifCond .eq 11, 3) := by decide +kernel
theorem dX12_kept_7 : decode cX12_kept 7 = .ok (.aload_n 0, 1) := by decide +kernel
theorem dX12_kept_8 : decode cX12_kept 8 = .ok (.iload_n 1, 1) := by decide +kernel
theorem dX12_kept_9 : decode cX12_kept 9 = .ok (.invokevirtual 374, 3) := by decide +kernel
theorem dX12_kept_12 : decode cX12_kept 12 = .ok (.goto 4, 3) := by decide +kernel
theorem dX12_kept_15 : decode cX12_kept 15 = .ok (.iconst (-1), 1) := by decide +kernel
theorem dX12_kept_16 : decode cX12_kept 16 = .ok (.ireturn, 1) := by decide +kernel
theorem dX12_frameTells_0 : decode cX12_frameTells 0 = .ok (.iload_n 2, 1) := by decide +kernel
theorem dX12_frameTells_1 : decode cX12_frameTells 1 = .ok (.ifCond .ne 12, 3) := by decide +kernel
theorem dX12_frameTells_4 : decode cX12_frameTells 4 = .ok (.aload_n 0, 1) := by decide +kernel
theorem dX12_frameTells_5 : decode cX12_frameTells 5 = .ok (.getfield 138, 3) := by decide +kernel
theorem dX12_frameTells_8 : decode cX12_frameTells 8 = .ok (.iload_n 1, 1) := by decide +kernel
theorem dX12_frameTells_9 : decode cX12_frameTells 9 = .ok (.iaload, 1) := by decide +kernel
theorem dX12_frameTells_10 : decode cX12_frameTells 10 = .ok (.goto 51, 3) := by decide +kernel
theorem dX12_frameTells_13 : decode cX12_frameTells 13 = .ok (.iload_n 2, 1) := by decide +kernel
theorem dX12_frameTells_14 : decode cX12_frameTells 14 = .ok (.iconst 1, 1) := by decide +kernel
theorem dX12_frameTells_15 : decode cX12_frameTells 15 = .ok (.if_icmp .ne 12, 3) := by decide +kernel
theorem dX12_frameTells_18 : decode cX12_frameTells 18 = .ok (.aload_n 0, 1) := by decide +kernel
theorem dX12_frameTells_19 : decode cX12_frameTells 19 = .ok (.getfield 141, 3) := by decide +kernel
theorem dX12_frameTells_22 : decode cX12_frameTells 22 = .ok (.iload_n 1, 1) := by decide +kernel
theorem dX12_frameTells_23 : decode cX12_frameTells 23 = .ok (.iaload, 1) := by decide +kernel
theorem dX12_frameTells_24 : decode cX12_frameTells 24 = .ok (.goto 37, 3) := by decide +kernel
theorem dX12_frameTells_27 : decode cX12_frameTells 27 = .ok (.iload_n 2, 1) := by decide +kernel
theorem dX12_frameTells_28 : decode cX12_frameTells 28 = .ok (.iconst 2, 1) := by decide +kernel
theorem dX12_frameTells_29 : decode cX12_frameTells 29 = .ok (.if_icmp .ne 12, 3) := by decide +kernel
theorem dX12_frameTells_32 : decode cX12_frameTells 32 = .ok (.aload_n 0, 1) := by decide +kernel
theorem dX12_frameTells_33 : decode cX12_frameTells 33 = .ok (.getfield 144, 3) := by decide +kernel
theorem dX12_frameTells_36 : decode cX12_frameTells 36 = .ok (.iload_n 1, 1) := by decide +kernel
theorem dX12_frameTells_37 : decode cX12_frameTells 37 = .ok (.iaload, 1) := by decide +kernel
theorem dX12_frameTells_38 : decode cX12_frameTells 38 = .ok (.goto 23, 3) := by decide +kernel
theorem dX12_frameTells_41 : decode cX12_frameTells 41 = .ok (.iload_n 2, 1) := by decide +kernel
theorem dX12_frameTells_42 : decode cX12_frameTells 42 = .ok (.iconst 3, 1) := by decide +kernel
theorem dX12_frameTells_43 : decode cX12_frameTells 43 = .ok (.if_icmp .ne 12, 3) := by decide +kernel
theorem dX12_frameTells_46 : decode cX12_frameTells 46 = .ok (.aload_n 0, 1) := by decide +kernel
theorem dX12_frameTells_47 : decode cX12_frameTells 47 = .ok (.getfield 147, 3) := by decide +kernel
theorem dX12_frameTells_50 : decode cX12_frameTells 50 = .ok (.iload_n 1, 1) := by decide +kernel
theorem dX12_frameTells_51 : decode cX12_frameTells 51 = .ok (.iaload, 1) := by decide +kernel
theorem dX12_frameTells_52 : decode cX12_frameTells 52 = .ok (.goto 9, 3) := by decide +kernel
theorem dX12_frameTells_55 : decode cX12_frameTells 55 = .ok (.aload_n 0, 1) := by decide +kernel
theorem dX12_frameTells_56 : decode cX12_frameTells 56 = .ok (.getfield 150, 3) := by decide +kernel
theorem dX12_frameTells_59 : decode cX12_frameTells 59 = .ok (.iload_n 1, 1) := by decide +kernel
theorem dX12_frameTells_60 : decode cX12_frameTells 60 = .ok (.iaload, 1) := by decide +kernel
theorem dX12_frameTells_61 : decode cX12_frameTells 61 = .ok (.ireturn, 1) := by decide +kernel
theorem dX12_frame_0 : decode cX12_frame 0 = .ok (.iload_n 1, 1) := by decide +kernel
theorem dX12_frame_1 : decode cX12_frame 1 = .ok (.iconst 0, 1) := by decide +kernel
theorem dX12_frame_2 : decode cX12_frame 2 = .ok (.aload_n 0, 1) := by decide +kernel
theorem dX12_frame_3 : decode cX12_frame 3 = .ok (.getfield 301, 3) := by decide +kernel
theorem dX12_frame_6 : decode cX12_frame 6 = .ok (.iconst 1, 1) := by decide +kernel
theorem dX12_frame_7 : decode cX12_frame 7 = .ok (.isub, 1) := by decide +kernel
theorem dX12_frame_8 : decode cX12_frame 8 = .ok (.invokestatic 175, 3) := by decide +kernel
theorem dX12_frame_11 : decode cX12_frame 11 = .ok (.ifCond .eq 26, 3) := by decide +kernel
theorem dX12_frame_14 : decode cX12_frame 14 = .ok (.iload_n 2, 1) := by decide +kernel
theorem dX12_frame_15 : decode cX12_frame 15 = .ok (.iconst 0, 1) := by decide +kernel
theorem dX12_frame_16 : decode cX12_frame 16 = .ok (.iconst 4, 1) := by decide +kernel
theorem dX12_frame_17 : decode cX12_frame 17 = .ok (.invokestatic 175, 3) := by decide +kernel
theorem dX12_frame_20 : decode cX12_frame 20 = .ok (.ifCond .eq 17, 3) := by decide +kernel
theorem dX12_frame_23 : decode cX12_frame 23 = .ok (.aload_n 0, 1) := by decide +kernel
theorem dX12_frame_24 : decode cX12_frame 24 = .ok (.aload_n 0, 1) := by decide +kernel
theorem dX12_frame_25 : decode cX12_frame 25 = .ok (.iload_n 1, 1) := by decide +kernel
theorem dX12_frame_26 : decode cX12_frame 26 = .ok (.iload_n 2, 1) := by decide +kernel
theorem dX12_frame_27 : decode cX12_frame 27 = .ok (.invokevirtual 377, 3) := by decide +kernel
theorem dX12_frame_30 : decode cX12_frame 30 = .ok (.iconst 1, 1) := by decide +kernel
theorem dX12_frame_31 : decode cX12_frame 31 = .ok (.invokevirtual 194, 3) := by decide +kernel
theorem dX12_frame_34 : decode cX12_frame 34 = .ok (.goto 4, 3) := by decide +kernel
theorem dX12_frame_37 : decode cX12_frame 37 = .ok (.iconst (-1), 1) := by decide +kernel
theorem dX12_frame_38 : decode cX12_frame 38 = .ok (.ireturn, 1) := by decide +kernel
theorem dX12_mark_0 : decode cX12_mark 0 = .ok (.iload_n 1, 1) := by decide +kernel
theorem dX12_mark_1 : decode cX12_mark 1 = .ok (.iconst 0, 1) := by decide +kernel
theorem dX12_mark_2 : decode cX12_mark 2 = .ok (.aload_n 0, 1) := by decide +kernel
theorem dX12_mark_3 : decode cX12_mark 3 = .ok (.getfield 301, 3) := by decide +kernel
theorem dX12_mark_6 : decode cX12_mark 6 = .ok (.iconst 1, 1) := by decide +kernel
theorem dX12_mark_7 : decode cX12_mark 7 = .ok (.isub, 1) := by decide +kernel
theorem dX12_mark_8 : decode cX12_mark 8 = .ok (.invokestatic 175, 3) := by decide +kernel
theorem dX12_mark_11 : decode cX12_mark 11 = .ok (.ifCond .eq 13, 3) := by decide +kernel
theorem dX12_mark_14 : decode cX12_mark 14 = .ok (.iload_n 2, 1) := by decide +kernel
theorem dX12_mark_15 : decode cX12_mark 15 = .ok (.iconst 1, 1) := by decide +kernel
theorem dX12_mark_16 : decode cX12_mark 16 = .ok (.bipush 6, 2) := by decide +kernel
theorem dX12_mark_18 : decode cX12_mark 18 = .ok (.invokestatic 175, 3) := by decide +kernel
theorem dX12_mark_21 : decode cX12_mark 21 = .ok (.ifCond .ne 5, 3) := by decide +kernel
theorem dX12_mark_24 : decode cX12_mark 24 = .ok (.iconst (-1), 1) := by decide +kernel
theorem dX12_mark_25 : decode cX12_mark 25 = .ok (.ireturn, 1) := by decide +kernel
theorem dX12_mark_26 : decode cX12_mark 26 = .ok (.aload_n 0, 1) := by decide +kernel
theorem dX12_mark_27 : decode cX12_mark 27 = .ok (.getfield 138, 3) := by decide +kernel
theorem dX12_mark_30 : decode cX12_mark 30 = .ok (.iload_n 1, 1) := by decide +kernel
theorem dX12_mark_31 : decode cX12_mark 31 = .ok (.iaload, 1) := by decide +kernel
theorem dX12_mark_32 : decode cX12_mark 32 = .ok (.istore_n 3, 1) := by decide +kernel
theorem dX12_mark_33 : decode cX12_mark 33 = .ok (.iload_n 3, 1) := by decide +kernel
theorem dX12_mark_34 : decode cX12_mark 34 = .ok (.iload_n 2, 1) := by decide +kernel
theorem dX12_mark_35 : decode cX12_mark 35 = .ok (.if_icmp .eq 30, 3) := by decide +kernel
theorem dX12_mark_38 : decode cX12_mark 38 = .ok (.iload_n 2, 1) := by decide +kernel
theorem dX12_mark_39 : decode cX12_mark 39 = .ok (.iconst 1, 1) := by decide +kernel
theorem dX12_mark_40 : decode cX12_mark 40 = .ok (.if_icmp .ne 9, 3) := by decide +kernel
theorem dX12_mark_43 : decode cX12_mark 43 = .ok (.iload_n 3, 1) := by decide +kernel
theorem dX12_mark_44 : decode cX12_mark 44 = .ok (.bipush 6, 2) := by decide +kernel
theorem dX12_mark_46 : decode cX12_mark 46 = .ok (.if_icmp .eq 19, 3) := by decide +kernel
theorem dX12_mark_49 : decode cX12_mark 49 = .ok (.iload_n 2, 1) := by decide +kernel
theorem dX12_mark_50 : decode cX12_mark 50 = .ok (.iconst 2, 1) := by decide +kernel
theorem dX12_mark_51 : decode cX12_mark 51 = .ok (.if_icmp .ne 8, 3) := by decide +kernel
theorem dX12_mark_54 : decode cX12_mark 54 = .ok (.iload_n 3, 1) := by decide +kernel
theorem dX12_mark_55 : decode cX12_mark 55 = .ok (.iconst 3, 1) := by decide +kernel
theorem dX12_mark_56 : decode cX12_mark 56 = .ok (.if_icmp .eq 9, 3) := by decide +kernel
theorem dX12_mark_59 : decode cX12_mark 59 = .ok (.aload_n 0, 1) := by decide +kernel
theorem dX12_mark_60 : decode cX12_mark 60 = .ok (.iconst 3, 1) := by decide +kernel
theorem dX12_mark_61 : decode cX12_mark 61 = .ok (.invokevirtual 183, 3) := by decide +kernel
theorem dX12_mark_64 : decode cX12_mark 64 = .ok (.ireturn, 1) := by decide +kernel
theorem dX12_mark_65 : decode cX12_mark 65 = .ok (.iload_n 2, 1) := by decide +kernel
theorem dX12_mark_66 : decode cX12_mark 66 = .ok (.iconst 1, 1) := by decide +kernel
theorem dX12_mark_67 : decode cX12_mark 67 = .ok (.if_icmp .eq 8, 3) := by decide +kernel
theorem dX12_mark_70 : decode cX12_mark 70 = .ok (.iload_n 2, 1) := by decide +kernel
theorem dX12_mark_71 : decode cX12_mark 71 = .ok (.iconst 2, 1) := by decide +kernel
theorem dX12_mark_72 : decode cX12_mark 72 = .ok (.if_icmp .ne 12, 3) := by decide +kernel
theorem dX12_mark_75 : decode cX12_mark 75 = .ok (.aload_n 0, 1) := by decide +kernel
theorem dX12_mark_76 : decode cX12_mark 76 = .ok (.getfield 153, 3) := by decide +kernel
theorem dX12_mark_79 : decode cX12_mark 79 = .ok (.iload_n 1, 1) := by decide +kernel
theorem dX12_mark_80 : decode cX12_mark 80 = .ok (.iaload, 1) := by decide +kernel
theorem dX12_mark_81 : decode cX12_mark 81 = .ok (.goto 9, 3) := by decide +kernel
theorem dX12_mark_84 : decode cX12_mark 84 = .ok (.aload_n 0, 1) := by decide +kernel
theorem dX12_mark_85 : decode cX12_mark 85 = .ok (.getfield 156, 3) := by decide +kernel
theorem dX12_mark_88 : decode cX12_mark 88 = .ok (.iload_n 1, 1) := by decide +kernel
theorem dX12_mark_89 : decode cX12_mark 89 = .ok (.iaload, 1) := by decide +kernel
theorem dX12_mark_90 : decode cX12_mark 90 = .ok (.ireturn, 1) := by decide +kernel
theorem dX12_credit_0 : decode cX12_credit 0 = .ok (.aload_n 0, 1) := by decide +kernel
theorem dX12_credit_1 : decode cX12_credit 1 = .ok (.iload_n 1, 1) := by decide +kernel
theorem dX12_credit_2 : decode cX12_credit 2 = .ok (.invokevirtual 368, 3) := by decide +kernel
theorem dX12_credit_5 : decode cX12_credit 5 = .ok (.ifCond .eq 13, 3) := by decide +kernel
theorem dX12_credit_8 : decode cX12_credit 8 = .ok (.iload_n 2, 1) := by decide +kernel
theorem dX12_credit_9 : decode cX12_credit 9 = .ok (.iconst 1, 1) := by decide +kernel
theorem dX12_credit_10 : decode cX12_credit 10 = .ok (.bipush 9, 2) := by decide +kernel
theorem dX12_credit_12 : decode cX12_credit 12 = .ok (.invokestatic 175, 3) := by decide +kernel
theorem dX12_credit_15 : decode cX12_credit 15 = .ok (.ifCond .ne 5, 3) := by decide +kernel
theorem dX12_credit_18 : decode cX12_credit 18 = .ok (.iconst (-1), 1) := by decide +kernel
theorem dX12_credit_19 : decode cX12_credit 19 = .ok (.ireturn, 1) := by decide +kernel
theorem dX12_credit_20 : decode cX12_credit 20 = .ok (.aload_n 0, 1) := by decide +kernel
theorem dX12_credit_21 : decode cX12_credit 21 = .ok (.getfield 380, 3) := by decide +kernel
theorem dX12_credit_24 : decode cX12_credit 24 = .ok (.sipush 200, 3) := by decide +kernel
theorem dX12_credit_27 : decode cX12_credit 27 = .ok (.if_icmp .ne 6, 3) := by decide +kernel
theorem dX12_credit_30 : decode cX12_credit 30 = .ok (.bipush (-2), 2) := by decide +kernel
theorem dX12_credit_32 : decode cX12_credit 32 = .ok (.ireturn, 1) := by decide +kernel
theorem dX12_credit_33 : decode cX12_credit 33 = .ok (.aload_n 0, 1) := by decide +kernel
theorem dX12_credit_34 : decode cX12_credit 34 = .ok (.getfield 99, 3) := by decide +kernel
theorem dX12_credit_37 : decode cX12_credit 37 = .ok (.iload_n 1, 1) := by decide +kernel
theorem dX12_credit_38 : decode cX12_credit 38 = .ok (.iaload, 1) := by decide +kernel
theorem dX12_credit_39 : decode cX12_credit 39 = .ok (.iconst 3, 1) := by decide +kernel
theorem dX12_credit_40 : decode cX12_credit 40 = .ok (.if_icmp .eq 6, 3) := by decide +kernel
theorem dX12_credit_43 : decode cX12_credit 43 = .ok (.bipush (-4), 2) := by decide +kernel
theorem dX12_credit_45 : decode cX12_credit 45 = .ok (.ireturn, 1) := by decide +kernel
theorem dX12_credit_46 : decode cX12_credit 46 = .ok (.aload_n 0, 1) := by decide +kernel
theorem dX12_credit_47 : decode cX12_credit 47 = .ok (.dup, 1) := by decide +kernel
theorem dX12_credit_48 : decode cX12_credit 48 = .ok (.getfield 380, 3) := by decide +kernel
theorem dX12_credit_51 : decode cX12_credit 51 = .ok (.iconst 1, 1) := by decide +kernel
theorem dX12_credit_52 : decode cX12_credit 52 = .ok (.iadd, 1) := by decide +kernel
theorem dX12_credit_53 : decode cX12_credit 53 = .ok (.putfield 380, 3) := by decide +kernel
theorem dX12_credit_56 : decode cX12_credit 56 = .ok (.aload_n 0, 1) := by decide +kernel
theorem dX12_credit_57 : decode cX12_credit 57 = .ok (.iload_n 1, 1) := by decide +kernel
theorem dX12_credit_58 : decode cX12_credit 58 = .ok (.iconst 5, 1) := by decide +kernel
theorem dX12_credit_59 : decode cX12_credit 59 = .ok (.iload_n 2, 1) := by decide +kernel
theorem dX12_credit_60 : decode cX12_credit 60 = .ok (.invokevirtual 314, 3) := by decide +kernel
theorem dX12_credit_63 : decode cX12_credit 63 = .ok (.ireturn, 1) := by decide +kernel
theorem dX12_piece_0 : decode cX12_piece 0 = .ok (.aload_n 0, 1) := by decide +kernel
theorem dX12_piece_1 : decode cX12_piece 1 = .ok (.iload_n 1, 1) := by decide +kernel
theorem dX12_piece_2 : decode cX12_piece 2 = .ok (.invokevirtual 368, 3) := by decide +kernel
theorem dX12_piece_5 : decode cX12_piece 5 = .ok (.ifCond .ne 5, 3) := by decide +kernel
theorem dX12_piece_8 : decode cX12_piece 8 = .ok (.iconst (-1), 1) := by decide +kernel
theorem dX12_piece_9 : decode cX12_piece 9 = .ok (.ireturn, 1) := by decide +kernel
theorem dX12_piece_10 : decode cX12_piece 10 = .ok (.aload_n 0, 1) := by decide +kernel
theorem dX12_piece_11 : decode cX12_piece 11 = .ok (.getfield 380, 3) := by decide +kernel
