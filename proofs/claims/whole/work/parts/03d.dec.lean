theorem dX12_has_14 : decode cX12_has 14 = .ok (.ireturn, 1) := by decide +kernel
theorem dX12_bits_0 : decode cX12_bits 0 = .ok (.iconst 0, 1) := by decide +kernel
theorem dX12_bits_1 : decode cX12_bits 1 = .ok (.istore_n 1, 1) := by decide +kernel
theorem dX12_bits_2 : decode cX12_bits 2 = .ok (.iconst 0, 1) := by decide +kernel
theorem dX12_bits_3 : decode cX12_bits 3 = .ok (.istore_n 2, 1) := by decide +kernel
theorem dX12_bits_4 : decode cX12_bits 4 = .ok (.iload_n 2, 1) := by decide +kernel
theorem dX12_bits_5 : decode cX12_bits 5 = .ok (.bipush 16, 2) := by decide +kernel
theorem dX12_bits_7 : decode cX12_bits 7 = .ok (.if_icmp .ge 17, 3) := by decide +kernel
theorem dX12_bits_10 : decode cX12_bits 10 = .ok (.iload_n 1, 1) := by decide +kernel
theorem dX12_bits_11 : decode cX12_bits 11 = .ok (.iload_n 0, 1) := by decide +kernel
theorem dX12_bits_12 : decode cX12_bits 12 = .ok (.iload_n 2, 1) := by decide +kernel
theorem dX12_bits_13 : decode cX12_bits 13 = .ok (.ishr, 1) := by decide +kernel
theorem dX12_bits_14 : decode cX12_bits 14 = .ok (.iconst 1, 1) := by decide +kernel
theorem dX12_bits_15 : decode cX12_bits 15 = .ok (.iand, 1) := by decide +kernel
theorem dX12_bits_16 : decode cX12_bits 16 = .ok (.iadd, 1) := by decide +kernel
theorem dX12_bits_17 : decode cX12_bits 17 = .ok (.istore_n 1, 1) := by decide +kernel
theorem dX12_bits_18 : decode cX12_bits 18 = .ok (.iinc 2 1, 3) := by decide +kernel
theorem dX12_bits_21 : decode cX12_bits 21 = .ok (.goto (-17), 3) := by decide +kernel
theorem dX12_bits_24 : decode cX12_bits 24 = .ok (.iload_n 1, 1) := by decide +kernel
theorem dX12_bits_25 : decode cX12_bits 25 = .ok (.ireturn, 1) := by decide +kernel
theorem dX12_isSix_0 : decode cX12_isSix 0 = .ok (.iload_n 0, 1) := by decide +kernel
theorem dX12_isSix_1 : decode cX12_isSix 1 = .ok (.iconst 0, 1) := by decide +kernel
theorem dX12_isSix_2 : decode cX12_isSix 2 = .ok (.iconst 5, 1) := by decide +kernel
theorem dX12_isSix_3 : decode cX12_isSix 3 = .ok (.invokestatic 175, 3) := by decide +kernel
theorem dX12_isSix_6 : decode cX12_isSix 6 = .ok (.ireturn, 1) := by decide +kernel
theorem dX12_askedRow_0 : decode cX12_askedRow 0 = .ok (.iload_n 1, 1) := by decide +kernel
theorem dX12_askedRow_1 : decode cX12_askedRow 1 = .ok (.invokestatic 179, 3) := by decide +kernel
theorem dX12_askedRow_4 : decode cX12_askedRow 4 = .ok (.ifCond .ne 7, 3) := by decide +kernel
theorem dX12_askedRow_7 : decode cX12_askedRow 7 = .ok (.iconst (-1), 1) := by decide +kernel
theorem dX12_askedRow_8 : decode cX12_askedRow 8 = .ok (.goto 21, 3) := by decide +kernel
theorem dX12_askedRow_11 : decode cX12_askedRow 11 = .ok (.aload_n 0, 1) := by decide +kernel
theorem dX12_askedRow_12 : decode cX12_askedRow 12 = .ok (.getfield 17, 3) := by decide +kernel
theorem dX12_askedRow_15 : decode cX12_askedRow 15 = .ok (.iload_n 1, 1) := by decide +kernel
theorem dX12_askedRow_16 : decode cX12_askedRow 16 = .ok (.iaload, 1) := by decide +kernel
theorem dX12_askedRow_17 : decode cX12_askedRow 17 = .ok (.ifCond .ge 11, 3) := by decide +kernel
theorem dX12_askedRow_20 : decode cX12_askedRow 20 = .ok (.aload_n 0, 1) := by decide +kernel
theorem dX12_askedRow_21 : decode cX12_askedRow 21 = .ok (.iconst 1, 1) := by decide +kernel
theorem dX12_askedRow_22 : decode cX12_askedRow 22 = .ok (.invokevirtual 183, 3) := by decide +kernel
theorem dX12_askedRow_25 : decode cX12_askedRow 25 = .ok (.goto 4, 3) := by decide +kernel
theorem dX12_askedRow_28 : decode cX12_askedRow 28 = .ok (.iconst 0, 1) := by decide +kernel
theorem dX12_askedRow_29 : decode cX12_askedRow 29 = .ok (.ireturn, 1) := by decide +kernel
theorem dX12_askedText_0 : decode cX12_askedText 0 = .ok (.iload_n 1, 1) := by decide +kernel
theorem dX12_askedText_1 : decode cX12_askedText 1 = .ok (.invokestatic 179, 3) := by decide +kernel
theorem dX12_askedText_4 : decode cX12_askedText 4 = .ok (.ifCond .ne 7, 3) := by decide +kernel
theorem dX12_askedText_7 : decode cX12_askedText 7 = .ok (.iconst (-1), 1) := by decide +kernel
theorem dX12_askedText_8 : decode cX12_askedText 8 = .ok (.goto 21, 3) := by decide +kernel
theorem dX12_askedText_11 : decode cX12_askedText 11 = .ok (.aload_n 0, 1) := by decide +kernel
theorem dX12_askedText_12 : decode cX12_askedText 12 = .ok (.getfield 26, 3) := by decide +kernel
theorem dX12_askedText_15 : decode cX12_askedText 15 = .ok (.iload_n 1, 1) := by decide +kernel
theorem dX12_askedText_16 : decode cX12_askedText 16 = .ok (.iaload, 1) := by decide +kernel
theorem dX12_askedText_17 : decode cX12_askedText 17 = .ok (.ifCond .ge 11, 3) := by decide +kernel
theorem dX12_askedText_20 : decode cX12_askedText 20 = .ok (.aload_n 0, 1) := by decide +kernel
theorem dX12_askedText_21 : decode cX12_askedText 21 = .ok (.iconst 1, 1) := by decide +kernel
theorem dX12_askedText_22 : decode cX12_askedText 22 = .ok (.invokevirtual 183, 3) := by decide +kernel
theorem dX12_askedText_25 : decode cX12_askedText 25 = .ok (.goto 4, 3) := by decide +kernel
theorem dX12_askedText_28 : decode cX12_askedText 28 = .ok (.iconst 0, 1) := by decide +kernel
theorem dX12_askedText_29 : decode cX12_askedText 29 = .ok (.ireturn, 1) := by decide +kernel
theorem dX12_row_0 : decode cX12_row 0 = .ok (.iload_n 1, 1) := by decide +kernel
theorem dX12_row_1 : decode cX12_row 1 = .ok (.invokestatic 179, 3) := by decide +kernel
theorem dX12_row_4 : decode cX12_row 4 = .ok (.ifCond .eq 9, 3) := by decide +kernel
theorem dX12_row_7 : decode cX12_row 7 = .ok (.iload_n 2, 1) := by decide +kernel
theorem dX12_row_8 : decode cX12_row 8 = .ok (.bipush 60, 2) := by decide +kernel
theorem dX12_row_10 : decode cX12_row 10 = .ok (.if_icmp .le 5, 3) := by decide +kernel
theorem dX12_row_13 : decode cX12_row 13 = .ok (.iconst (-1), 1) := by decide +kernel
theorem dX12_row_14 : decode cX12_row 14 = .ok (.ireturn, 1) := by decide +kernel
theorem dX12_row_15 : decode cX12_row 15 = .ok (.iload_n 2, 1) := by decide +kernel
theorem dX12_row_16 : decode cX12_row 16 = .ok (.ifCond .ge 9, 3) := by decide +kernel
theorem dX12_row_19 : decode cX12_row 19 = .ok (.aload_n 0, 1) := by decide +kernel
theorem dX12_row_20 : decode cX12_row 20 = .ok (.iconst 5, 1) := by decide +kernel
theorem dX12_row_21 : decode cX12_row 21 = .ok (.invokevirtual 183, 3) := by decide +kernel
theorem dX12_row_24 : decode cX12_row 24 = .ok (.ireturn, 1) := by decide +kernel
theorem dX12_row_25 : decode cX12_row 25 = .ok (.aload_n 0, 1) := by decide +kernel
theorem dX12_row_26 : decode cX12_row 26 = .ok (.getfield 17, 3) := by decide +kernel
theorem dX12_row_29 : decode cX12_row 29 = .ok (.iload_n 1, 1) := by decide +kernel
theorem dX12_row_30 : decode cX12_row 30 = .ok (.iload_n 2, 1) := by decide +kernel
theorem dX12_row_31 : decode cX12_row 31 = .ok (.iastore, 1) := by decide +kernel
theorem dX12_row_32 : decode cX12_row 32 = .ok (.iconst 0, 1) := by decide +kernel
theorem dX12_row_33 : decode cX12_row 33 = .ok (.istore_n 3, 1) := by decide +kernel
theorem dX12_row_34 : decode cX12_row 34 = .ok (.iload_n 3, 1) := by decide +kernel
theorem dX12_row_35 : decode cX12_row 35 = .ok (.bipush 60, 2) := by decide +kernel
theorem dX12_row_37 : decode cX12_row 37 = .ok (.if_icmp .ge 21, 3) := by decide +kernel
theorem dX12_row_40 : decode cX12_row 40 = .ok (.aload_n 0, 1) := by decide +kernel
theorem dX12_row_41 : decode cX12_row 41 = .ok (.getfield 20, 3) := by decide +kernel
theorem dX12_row_44 : decode cX12_row 44 = .ok (.bipush 60, 2) := by decide +kernel
theorem dX12_row_46 : decode cX12_row 46 = .ok (.iload_n 1, 1) := by decide +kernel
theorem dX12_row_47 : decode cX12_row 47 = .ok (.imul, 1) := by decide +kernel
theorem dX12_row_48 : decode cX12_row 48 = .ok (.iload_n 3, 1) := by decide +kernel
theorem dX12_row_49 : decode cX12_row 49 = .ok (.iadd, 1) := by decide +kernel
theorem dX12_row_50 : decode cX12_row 50 = .ok (.iconst 0, 1) := by decide +kernel
theorem dX12_row_51 : decode cX12_row 51 = .ok (.iastore, 1) := by decide +kernel
theorem dX12_row_52 : decode cX12_row 52 = .ok (.iinc 3 1, 3) := by decide +kernel
theorem dX12_row_55 : decode cX12_row 55 = .ok (.goto (-21), 3) := by decide +kernel
theorem dX12_row_58 : decode cX12_row 58 = .ok (.iload_n 2, 1) := by decide +kernel
theorem dX12_row_59 : decode cX12_row 59 = .ok (.ireturn, 1) := by decide +kernel
theorem dX12_lay_0 : decode cX12_lay 0 = .ok (.aload_n 0, 1) := by decide +kernel
theorem dX12_lay_1 : decode cX12_lay 1 = .ok (.iload_n 1, 1) := by decide +kernel
theorem dX12_lay_2 : decode cX12_lay 2 = .ok (.iload_n 2, 1) := by decide +kernel
theorem dX12_lay_3 : decode cX12_lay 3 = .ok (.invokevirtual 187, 3) := by decide +kernel
theorem dX12_lay_6 : decode cX12_lay 6 = .ok (.istore 4, 2) := by decide +kernel
theorem dX12_lay_8 : decode cX12_lay 8 = .ok (.iload 4, 2) := by decide +kernel
theorem dX12_lay_10 : decode cX12_lay 10 = .ok (.ifCond .ge 6, 3) := by decide +kernel
theorem dX12_lay_13 : decode cX12_lay 13 = .ok (.iload 4, 2) := by decide +kernel
theorem dX12_lay_15 : decode cX12_lay 15 = .ok (.ireturn, 1) := by decide +kernel
theorem dX12_lay_16 : decode cX12_lay 16 = .ok (.aload_n 0, 1) := by decide +kernel
theorem dX12_lay_17 : decode cX12_lay 17 = .ok (.getfield 20, 3) := by decide +kernel
theorem dX12_lay_20 : decode cX12_lay 20 = .ok (.bipush 60, 2) := by decide +kernel
theorem dX12_lay_22 : decode cX12_lay 22 = .ok (.iload_n 1, 1) := by decide +kernel
theorem dX12_lay_23 : decode cX12_lay 23 = .ok (.imul, 1) := by decide +kernel
theorem dX12_lay_24 : decode cX12_lay 24 = .ok (.iload_n 2, 1) := by decide +kernel
theorem dX12_lay_25 : decode cX12_lay 25 = .ok (.iadd, 1) := by decide +kernel
theorem dX12_lay_26 : decode cX12_lay 26 = .ok (.iload_n 3, 1) := by decide +kernel
theorem dX12_lay_27 : decode cX12_lay 27 = .ok (.iastore, 1) := by decide +kernel
theorem dX12_lay_28 : decode cX12_lay 28 = .ok (.iconst 1, 1) := by decide +kernel
theorem dX12_lay_29 : decode cX12_lay 29 = .ok (.ireturn, 1) := by decide +kernel
theorem dX12_at_0 : decode cX12_at 0 = .ok (.aload_n 0, 1) := by decide +kernel
theorem dX12_at_1 : decode cX12_at 1 = .ok (.iload_n 1, 1) := by decide +kernel
theorem dX12_at_2 : decode cX12_at 2 = .ok (.invokevirtual 191, 3) := by decide +kernel
theorem dX12_at_5 : decode cX12_at 5 = .ok (.istore_n 3, 1) := by decide +kernel
theorem dX12_at_6 : decode cX12_at 6 = .ok (.iload_n 3, 1) := by decide +kernel
theorem dX12_at_7 : decode cX12_at 7 = .ok (.ifCond .ge 5, 3) := by decide +kernel
theorem dX12_at_10 : decode cX12_at 10 = .ok (.iload_n 3, 1) := by decide +kernel
theorem dX12_at_11 : decode cX12_at 11 = .ok (.ireturn, 1) := by decide +kernel
theorem dX12_at_12 : decode cX12_at 12 = .ok (.iload_n 2, 1) := by decide +kernel
theorem dX12_at_13 : decode cX12_at 13 = .ok (.iconst 0, 1) := by decide +kernel
theorem dX12_at_14 : decode cX12_at 14 = .ok (.aload_n 0, 1) := by decide +kernel
theorem dX12_at_15 : decode cX12_at 15 = .ok (.getfield 17, 3) := by decide +kernel
theorem dX12_at_18 : decode cX12_at 18 = .ok (.iload_n 1, 1) := by decide +kernel
theorem dX12_at_19 : decode cX12_at 19 = .ok (.iaload, 1) := by decide +kernel
theorem dX12_at_20 : decode cX12_at 20 = .ok (.iconst 1, 1) := by decide +kernel
theorem dX12_at_21 : decode cX12_at 21 = .ok (.isub, 1) := by decide +kernel
theorem dX12_at_22 : decode cX12_at 22 = .ok (.invokestatic 175, 3) := by decide +kernel
theorem dX12_at_25 : decode cX12_at 25 = .ok (.ifCond .eq 22, 3) := by decide +kernel
theorem dX12_at_28 : decode cX12_at 28 = .ok (.aload_n 0, 1) := by decide +kernel
theorem dX12_at_29 : decode cX12_at 29 = .ok (.aload_n 0, 1) := by decide +kernel
theorem dX12_at_30 : decode cX12_at 30 = .ok (.getfield 20, 3) := by decide +kernel
theorem dX12_at_33 : decode cX12_at 33 = .ok (.bipush 60, 2) := by decide +kernel
theorem dX12_at_35 : decode cX12_at 35 = .ok (.iload_n 1, 1) := by decide +kernel
theorem dX12_at_36 : decode cX12_at 36 = .ok (.imul, 1) := by decide +kernel
theorem dX12_at_37 : decode cX12_at 37 = .ok (.iload_n 2, 1) := by decide +kernel
theorem dX12_at_38 : decode cX12_at 38 = .ok (.iadd, 1) := by decide +kernel
theorem dX12_at_39 : decode cX12_at 39 = .ok (.iaload, 1) := by decide +kernel
theorem dX12_at_40 : decode cX12_at 40 = .ok (.iconst 1, 1) := by decide +kernel
theorem dX12_at_41 : decode cX12_at 41 = .ok (.invokevirtual 194, 3) := by decide +kernel
theorem dX12_at_44 : decode cX12_at 44 = .ok (.goto 8, 3) := by decide +kernel
theorem dX12_at_47 : decode cX12_at 47 = .ok (.aload_n 0, 1) := by decide +kernel
theorem dX12_at_48 : decode cX12_at 48 = .ok (.iconst 2, 1) := by decide +kernel
theorem dX12_at_49 : decode cX12_at 49 = .ok (.invokevirtual 183, 3) := by decide +kernel
theorem dX12_at_52 : decode cX12_at 52 = .ok (.ireturn, 1) := by decide +kernel
theorem dX12_tear_0 : decode cX12_tear 0 = .ok (.aload_n 0, 1) := by decide +kernel
theorem dX12_tear_1 : decode cX12_tear 1 = .ok (.iload_n 1, 1) := by decide +kernel
theorem dX12_tear_2 : decode cX12_tear 2 = .ok (.invokevirtual 191, 3) := by decide +kernel
theorem dX12_tear_5 : decode cX12_tear 5 = .ok (.istore_n 2, 1) := by decide +kernel
theorem dX12_tear_6 : decode cX12_tear 6 = .ok (.iload_n 2, 1) := by decide +kernel
theorem dX12_tear_7 : decode cX12_tear 7 = .ok (.ifCond .ge 5, 3) := by decide +kernel
theorem dX12_tear_10 : decode cX12_tear 10 = .ok (.iload_n 2, 1) := by decide +kernel
theorem dX12_tear_11 : decode cX12_tear 11 = .ok (.ireturn, 1) := by decide +kernel
theorem dX12_tear_12 : decode cX12_tear 12 = .ok (.aload_n 0, 1) := by decide +kernel
theorem dX12_tear_13 : decode cX12_tear 13 = .ok (.getfield 17, 3) := by decide +kernel
theorem dX12_tear_16 : decode cX12_tear 16 = .ok (.iload_n 1, 1) := by decide +kernel
theorem dX12_tear_17 : decode cX12_tear 17 = .ok (.bipush (-9), 2) := by decide +kernel
theorem dX12_tear_19 : decode cX12_tear 19 = .ok (.iastore, 1) := by decide +kernel
theorem dX12_tear_20 : decode cX12_tear 20 = .ok (.iconst 1, 1) := by decide +kernel
theorem dX12_tear_21 : decode cX12_tear 21 = .ok (.ireturn, 1) := by decide +kernel
theorem dX12_copy_0 : decode cX12_copy 0 = .ok (.iload_n 1, 1) := by decide +kernel
theorem dX12_copy_1 : decode cX12_copy 1 = .ok (.invokestatic 179, 3) := by decide +kernel
theorem dX12_copy_4 : decode cX12_copy 4 = .ok (.ifCond .eq 10, 3) := by decide +kernel
theorem dX12_copy_7 : decode cX12_copy 7 = .ok (.iload_n 3, 1) := by decide +kernel
theorem dX12_copy_8 : decode cX12_copy 8 = .ok (.invokestatic 179, 3) := by decide +kernel
theorem dX12_copy_11 : decode cX12_copy 11 = .ok (.ifCond .ne 5, 3) := by decide +kernel
theorem dX12_copy_14 : decode cX12_copy 14 = .ok (.iconst (-1), 1) := by decide +kernel
theorem dX12_copy_15 : decode cX12_copy 15 = .ok (.ireturn, 1) := by decide +kernel
theorem dX12_copy_16 : decode cX12_copy 16 = .ok (.iload 5, 2) := by decide +kernel
theorem dX12_copy_18 : decode cX12_copy 18 = .ok (.ifCond .ge 9, 3) := by decide +kernel
theorem dX12_copy_21 : decode cX12_copy 21 = .ok (.aload_n 0, 1) := by decide +kernel
theorem dX12_copy_22 : decode cX12_copy 22 = .ok (.iconst 5, 1) := by decide +kernel
theorem dX12_copy_23 : decode cX12_copy 23 = .ok (.invokevirtual 183, 3) := by decide +kernel
theorem dX12_copy_26 : decode cX12_copy 26 = .ok (.ireturn, 1) := by decide +kernel
theorem dX12_copy_27 : decode cX12_copy 27 = .ok (.aload_n 0, 1) := by decide +kernel
theorem dX12_copy_28 : decode cX12_copy 28 = .ok (.getfield 17, 3) := by decide +kernel
theorem dX12_copy_31 : decode cX12_copy 31 = .ok (.iload_n 1, 1) := by decide +kernel
theorem dX12_copy_32 : decode cX12_copy 32 = .ok (.iaload, 1) := by decide +kernel
theorem dX12_copy_33 : decode cX12_copy 33 = .ok (.ifCond .lt 12, 3) := by decide +kernel
theorem dX12_copy_36 : decode cX12_copy 36 = .ok (.aload_n 0, 1) := by decide +kernel
theorem dX12_copy_37 : decode cX12_copy 37 = .ok (.getfield 17, 3) := by decide +kernel
theorem dX12_copy_40 : decode cX12_copy 40 = .ok (.iload_n 3, 1) := by decide +kernel
theorem dX12_copy_41 : decode cX12_copy 41 = .ok (.iaload, 1) := by decide +kernel
theorem dX12_copy_42 : decode cX12_copy 42 = .ok (.ifCond .ge 9, 3) := by decide +kernel
theorem dX12_copy_45 : decode cX12_copy 45 = .ok (.aload_n 0, 1) := by decide +kernel
theorem dX12_copy_46 : decode cX12_copy 46 = .ok (.iconst 1, 1) := by decide +kernel
theorem dX12_copy_47 : decode cX12_copy 47 = .ok (.invokevirtual 183, 3) := by decide +kernel
theorem dX12_copy_50 : decode cX12_copy 50 = .ok (.ireturn, 1) := by decide +kernel
theorem dX12_copy_51 : decode cX12_copy 51 = .ok (.iload_n 2, 1) := by decide +kernel
theorem dX12_copy_52 : decode cX12_copy 52 = .ok (.ifCond .lt 43, 3) := by decide +kernel
theorem dX12_copy_55 : decode cX12_copy 55 = .ok (.iload 4, 2) := by decide +kernel
theorem dX12_copy_57 : decode cX12_copy 57 = .ok (.ifCond .lt 38, 3) := by decide +kernel
theorem dX12_copy_60 : decode cX12_copy 60 = .ok (.iload_n 2, 1) := by decide +kernel
theorem dX12_copy_61 : decode cX12_copy 61 = .ok (.i2l, 1) := by decide +kernel
theorem dX12_copy_62 : decode cX12_copy 62 = .ok (.iload 5, 2) := by decide +kernel
theorem dX12_copy_64 : decode cX12_copy 64 = .ok (.i2l, 1) := by decide +kernel
theorem dX12_copy_65 : decode cX12_copy 65 = .ok (.ladd, 1) := by decide +kernel
theorem dX12_copy_66 : decode cX12_copy 66 = .ok (.aload_n 0, 1) := by decide +kernel
theorem dX12_copy_67 : decode cX12_copy 67 = .ok (.getfield 17, 3) := by decide +kernel
theorem dX12_copy_70 : decode cX12_copy 70 = .ok (.iload_n 1, 1) := by decide +kernel
theorem dX12_copy_71 : decode cX12_copy 71 = .ok (.iaload, 1) := by decide +kernel
theorem dX12_copy_72 : decode cX12_copy 72 = .ok (.i2l, 1) := by decide +kernel
theorem dX12_copy_73 : decode cX12_copy 73 = .ok (.lcmp, 1) := by decide +kernel
theorem dX12_copy_74 : decode cX12_copy 74 = .ok (.ifCond .gt 21, 3) := by decide +kernel
theorem dX12_copy_77 : decode cX12_copy 77 = .ok (.iload 4, 2) := by decide +kernel
theorem dX12_copy_79 : decode cX12_copy 79 = .ok (.i2l, 1) := by decide +kernel
theorem dX12_copy_80 : decode cX12_copy 80 = .ok (.iload 5, 2) := by decide +kernel
theorem dX12_copy_82 : decode cX12_copy 82 = .ok (.i2l, 1) := by decide +kernel
theorem dX12_copy_83 : decode cX12_copy 83 = .ok (.ladd, 1) := by decide +kernel
theorem dX12_copy_84 : decode cX12_copy 84 = .ok (.aload_n 0, 1) := by decide +kernel
theorem dX12_copy_85 : decode cX12_copy 85 = .ok (.getfield 17, 3) := by decide +kernel
theorem dX12_copy_88 : decode cX12_copy 88 = .ok (.iload_n 3, 1) := by decide +kernel
theorem dX12_copy_89 : decode cX12_copy 89 = .ok (.iaload, 1) := by decide +kernel
theorem dX12_copy_90 : decode cX12_copy 90 = .ok (.i2l, 1) := by decide +kernel
theorem dX12_copy_91 : decode cX12_copy 91 = .ok (.lcmp, 1) := by decide +kernel
theorem dX12_copy_92 : decode cX12_copy 92 = .ok (.ifCond .le 9, 3) := by decide +kernel
theorem dX12_copy_95 : decode cX12_copy 95 = .ok (.aload_n 0, 1) := by decide +kernel
theorem dX12_copy_96 : decode cX12_copy 96 = .ok (.iconst 2, 1) := by decide +kernel
theorem dX12_copy_97 : decode cX12_copy 97 = .ok (.invokevirtual 183, 3) := by decide +kernel
theorem dX12_copy_100 : decode cX12_copy 100 = .ok (.ireturn, 1) := by decide +kernel
theorem dX12_copy_101 : decode cX12_copy 101 = .ok (.iconst 0, 1) := by decide +kernel
theorem dX12_copy_102 : decode cX12_copy 102 = .ok (.istore 6, 2) := by decide +kernel
theorem dX12_copy_104 : decode cX12_copy 104 = .ok (.iload 6, 2) := by decide +kernel
theorem dX12_copy_106 : decode cX12_copy 106 = .ok (.iload 5, 2) := by decide +kernel
theorem dX12_copy_108 : decode cX12_copy 108 = .ok (.if_icmp .ge 30, 3) := by decide +kernel
theorem dX12_copy_111 : decode cX12_copy 111 = .ok (.aload_n 0, 1) := by decide +kernel
theorem dX12_copy_112 : decode cX12_copy 112 = .ok (.getfield 23, 3) := by decide +kernel
theorem dX12_copy_115 : decode cX12_copy 115 = .ok (.iload 6, 2) := by decide +kernel
theorem dX12_copy_117 : decode cX12_copy 117 = .ok (.aload_n 0, 1) := by decide +kernel
theorem dX12_copy_118 : decode cX12_copy 118 = .ok (.getfield 20, 3) := by decide +kernel
theorem dX12_copy_121 : decode cX12_copy 121 = .ok (.bipush 60, 2) := by decide +kernel
theorem dX12_copy_123 : decode cX12_copy 123 = .ok (.iload_n 1, 1) := by decide +kernel
theorem dX12_copy_124 : decode cX12_copy 124 = .ok (.imul, 1) := by decide +kernel
theorem dX12_copy_125 : decode cX12_copy 125 = .ok (.iload_n 2, 1) := by decide +kernel
theorem dX12_copy_126 : decode cX12_copy 126 = .ok (.iadd, 1) := by decide +kernel
theorem dX12_copy_127 : decode cX12_copy 127 = .ok (.iload 6, 2) := by decide +kernel
theorem dX12_copy_129 : decode cX12_copy 129 = .ok (.iadd, 1) := by decide +kernel
theorem dX12_copy_130 : decode cX12_copy 130 = .ok (.iaload, 1) := by decide +kernel
theorem dX12_copy_131 : decode cX12_copy 131 = .ok (.iastore, 1) := by decide +kernel
theorem dX12_copy_132 : decode cX12_copy 132 = .ok (.iinc 6 1, 3) := by decide +kernel
theorem dX12_copy_135 : decode cX12_copy 135 = .ok (.goto (-31), 3) := by decide +kernel
theorem dX12_copy_138 : decode cX12_copy 138 = .ok (.iconst 0, 1) := by decide +kernel
theorem dX12_copy_139 : decode cX12_copy 139 = .ok (.istore 6, 2) := by decide +kernel
theorem dX12_copy_141 : decode cX12_copy 141 = .ok (.iload 6, 2) := by decide +kernel
theorem dX12_copy_143 : decode cX12_copy 143 = .ok (.iload 5, 2) := by decide +kernel
theorem dX12_copy_145 : decode cX12_copy 145 = .ok (.if_icmp .ge 31, 3) := by decide +kernel
theorem dX12_copy_148 : decode cX12_copy 148 = .ok (.aload_n 0, 1) := by decide +kernel
theorem dX12_copy_149 : decode cX12_copy 149 = .ok (.getfield 20, 3) := by decide +kernel
theorem dX12_copy_152 : decode cX12_copy 152 = .ok (.bipush 60, 2) := by decide +kernel
theorem dX12_copy_154 : decode cX12_copy 154 = .ok (.iload_n 3, 1) := by decide +kernel
theorem dX12_copy_155 : decode cX12_copy 155 = .ok (.imul, 1) := by decide +kernel
theorem dX12_copy_156 : decode cX12_copy 156 = .ok (.iload 4, 2) := by decide +kernel
theorem dX12_copy_158 : decode cX12_copy 158 = .ok (.iadd, 1) := by decide +kernel
theorem dX12_copy_159 : decode cX12_copy 159 = .ok (.iload 6, 2) := by decide +kernel
theorem dX12_copy_161 : decode cX12_copy 161 = .ok (.iadd, 1) := by decide +kernel
theorem dX12_copy_162 : decode cX12_copy 162 = .ok (.aload_n 0, 1) := by decide +kernel
theorem dX12_copy_163 : decode cX12_copy 163 = .ok (.getfield 23, 3) := by decide +kernel
theorem dX12_copy_166 : decode cX12_copy 166 = .ok (.iload 6, 2) := by decide +kernel
theorem dX12_copy_168 : decode cX12_copy 168 = .ok (.iaload, 1) := by decide +kernel
theorem dX12_copy_169 : decode cX12_copy 169 = .ok (.iastore, 1) := by decide +kernel
theorem dX12_copy_170 : decode cX12_copy 170 = .ok (.iinc 6 1, 3) := by decide +kernel
theorem dX12_copy_173 : decode cX12_copy 173 = .ok (.goto (-32), 3) := by decide +kernel
theorem dX12_copy_176 : decode cX12_copy 176 = .ok (.iconst 1, 1) := by decide +kernel
theorem dX12_copy_177 : decode cX12_copy 177 = .ok (.ireturn, 1) := by decide +kernel
theorem dX12_beginText_0 : decode cX12_beginText 0 = .ok (.aload_n 0, 1) := by decide +kernel
theorem dX12_beginText_1 : decode cX12_beginText 1 = .ok (.getfield 26, 3) := by decide +kernel
theorem dX12_beginText_4 : decode cX12_beginText 4 = .ok (.iload_n 1, 1) := by decide +kernel
theorem dX12_beginText_5 : decode cX12_beginText 5 = .ok (.iload_n 2, 1) := by decide +kernel
theorem dX12_beginText_6 : decode cX12_beginText 6 = .ok (.iastore, 1) := by decide +kernel
theorem dX12_beginText_7 : decode cX12_beginText 7 = .ok (.iconst 0, 1) := by decide +kernel
theorem dX12_beginText_8 : decode cX12_beginText 8 = .ok (.istore_n 3, 1) := by decide +kernel
theorem dX12_beginText_9 : decode cX12_beginText 9 = .ok (.iload_n 3, 1) := by decide +kernel
theorem dX12_beginText_10 : decode cX12_beginText 10 = .ok (.bipush 60, 2) := by decide +kernel
theorem dX12_beginText_12 : decode cX12_beginText 12 = .ok (.if_icmp .ge 22, 3) := by decide +kernel
theorem dX12_beginText_15 : decode cX12_beginText 15 = .ok (.aload_n 0, 1) := by decide +kernel
theorem dX12_beginText_16 : decode cX12_beginText 16 = .ok (.getfield 29, 3) := by decide +kernel
theorem dX12_beginText_19 : decode cX12_beginText 19 = .ok (.bipush 60, 2) := by decide +kernel
theorem dX12_beginText_21 : decode cX12_beginText 21 = .ok (.iload_n 1, 1) := by decide +kernel
theorem dX12_beginText_22 : decode cX12_beginText 22 = .ok (.imul, 1) := by decide +kernel
theorem dX12_beginText_23 : decode cX12_beginText 23 = .ok (.iload_n 3, 1) := by decide +kernel
theorem dX12_beginText_24 : decode cX12_beginText 24 = .ok (.iadd, 1) := by decide +kernel
theorem dX12_beginText_25 : decode cX12_beginText 25 = .ok (.bipush 32, 2) := by decide +kernel
theorem dX12_beginText_27 : decode cX12_beginText 27 = .ok (.iastore, 1) := by decide +kernel
theorem dX12_beginText_28 : decode cX12_beginText 28 = .ok (.iinc 3 1, 3) := by decide +kernel
theorem dX12_beginText_31 : decode cX12_beginText 31 = .ok (.goto (-22), 3) := by decide +kernel
theorem dX12_beginText_34 : decode cX12_beginText 34 = .ok (.return_, 1) := by decide +kernel
theorem dX12_text_0 : decode cX12_text 0 = .ok (.iload_n 1, 1) := by decide +kernel
theorem dX12_text_1 : decode cX12_text 1 = .ok (.invokestatic 179, 3) := by decide +kernel
theorem dX12_text_4 : decode cX12_text 4 = .ok (.ifCond .eq 9, 3) := by decide +kernel
theorem dX12_text_7 : decode cX12_text 7 = .ok (.iload_n 2, 1) := by decide +kernel
theorem dX12_text_8 : decode cX12_text 8 = .ok (.bipush 60, 2) := by decide +kernel
theorem dX12_text_10 : decode cX12_text 10 = .ok (.if_icmp .le 5, 3) := by decide +kernel
theorem dX12_text_13 : decode cX12_text 13 = .ok (.iconst (-1), 1) := by decide +kernel
theorem dX12_text_14 : decode cX12_text 14 = .ok (.ireturn, 1) := by decide +kernel
theorem dX12_text_15 : decode cX12_text 15 = .ok (.iload_n 2, 1) := by decide +kernel
theorem dX12_text_16 : decode cX12_text 16 = .ok (.ifCond .ge 9, 3) := by decide +kernel
theorem dX12_text_19 : decode cX12_text 19 = .ok (.aload_n 0, 1) := by decide +kernel
theorem dX12_text_20 : decode cX12_text 20 = .ok (.iconst 5, 1) := by decide +kernel
theorem dX12_text_21 : decode cX12_text 21 = .ok (.invokevirtual 183, 3) := by decide +kernel
theorem dX12_text_24 : decode cX12_text 24 = .ok (.ireturn, 1) := by decide +kernel
theorem dX12_text_25 : decode cX12_text 25 = .ok (.aload_n 0, 1) := by decide +kernel
theorem dX12_text_26 : decode cX12_text 26 = .ok (.iload_n 1, 1) := by decide +kernel
theorem dX12_text_27 : decode cX12_text 27 = .ok (.iload_n 2, 1) := by decide +kernel
theorem dX12_text_28 : decode cX12_text 28 = .ok (.invokevirtual 197, 3) := by decide +kernel
theorem dX12_text_31 : decode cX12_text 31 = .ok (.iload_n 2, 1) := by decide +kernel
theorem dX12_text_32 : decode cX12_text 32 = .ok (.ireturn, 1) := by decide +kernel
theorem dX12_put_0 : decode cX12_put 0 = .ok (.aload_n 0, 1) := by decide +kernel
theorem dX12_put_1 : decode cX12_put 1 = .ok (.iload_n 1, 1) := by decide +kernel
theorem dX12_put_2 : decode cX12_put 2 = .ok (.invokevirtual 201, 3) := by decide +kernel
theorem dX12_put_5 : decode cX12_put 5 = .ok (.istore 4, 2) := by decide +kernel
theorem dX12_put_7 : decode cX12_put 7 = .ok (.iload 4, 2) := by decide +kernel
theorem dX12_put_9 : decode cX12_put 9 = .ok (.ifCond .ge 6, 3) := by decide +kernel
theorem dX12_put_12 : decode cX12_put 12 = .ok (.iload 4, 2) := by decide +kernel
theorem dX12_put_14 : decode cX12_put 14 = .ok (.ireturn, 1) := by decide +kernel
theorem dX12_put_15 : decode cX12_put 15 = .ok (.iload_n 2, 1) := by decide +kernel
theorem dX12_put_16 : decode cX12_put 16 = .ok (.iconst 0, 1) := by decide +kernel
theorem dX12_put_17 : decode cX12_put 17 = .ok (.aload_n 0, 1) := by decide +kernel
theorem dX12_put_18 : decode cX12_put 18 = .ok (.getfield 26, 3) := by decide +kernel
theorem dX12_put_21 : decode cX12_put 21 = .ok (.iload_n 1, 1) := by decide +kernel
theorem dX12_put_22 : decode cX12_put 22 = .ok (.iaload, 1) := by decide +kernel
theorem dX12_put_23 : decode cX12_put 23 = .ok (.iconst 1, 1) := by decide +kernel
theorem dX12_put_24 : decode cX12_put 24 = .ok (.isub, 1) := by decide +kernel
theorem dX12_put_25 : decode cX12_put 25 = .ok (.invokestatic 175, 3) := by decide +kernel
theorem dX12_put_28 : decode cX12_put 28 = .ok (.ifCond .ne 9, 3) := by decide +kernel
theorem dX12_put_31 : decode cX12_put 31 = .ok (.aload_n 0, 1) := by decide +kernel
theorem dX12_put_32 : decode cX12_put 32 = .ok (.iconst 2, 1) := by decide +kernel
theorem dX12_put_33 : decode cX12_put 33 = .ok (.invokevirtual 183, 3) := by decide +kernel
theorem dX12_put_36 : decode cX12_put 36 = .ok (.ireturn, 1) := by decide +kernel
theorem dX12_put_37 : decode cX12_put 37 = .ok (.aload_n 0, 1) := by decide +kernel
theorem dX12_put_38 : decode cX12_put 38 = .ok (.getfield 29, 3) := by decide +kernel
theorem dX12_put_41 : decode cX12_put 41 = .ok (.bipush 60, 2) := by decide +kernel
theorem dX12_put_43 : decode cX12_put 43 = .ok (.iload_n 1, 1) := by decide +kernel
theorem dX12_put_44 : decode cX12_put 44 = .ok (.imul, 1) := by decide +kernel
theorem dX12_put_45 : decode cX12_put 45 = .ok (.iload_n 2, 1) := by decide +kernel
theorem dX12_put_46 : decode cX12_put 46 = .ok (.iadd, 1) := by decide +kernel
theorem dX12_put_47 : decode cX12_put 47 = .ok (.iaload, 1) := by decide +kernel
theorem dX12_put_48 : decode cX12_put 48 = .ok (.istore 5, 2) := by decide +kernel
theorem dX12_put_50 : decode cX12_put 50 = .ok (.aload_n 0, 1) := by decide +kernel
theorem dX12_put_51 : decode cX12_put 51 = .ok (.getfield 29, 3) := by decide +kernel
theorem dX12_put_54 : decode cX12_put 54 = .ok (.bipush 60, 2) := by decide +kernel
theorem dX12_put_56 : decode cX12_put 56 = .ok (.iload_n 1, 1) := by decide +kernel
theorem dX12_put_57 : decode cX12_put 57 = .ok (.imul, 1) := by decide +kernel
theorem dX12_put_58 : decode cX12_put 58 = .ok (.iload_n 2, 1) := by decide +kernel
theorem dX12_put_59 : decode cX12_put 59 = .ok (.iadd, 1) := by decide +kernel
theorem dX12_put_60 : decode cX12_put 60 = .ok (.iload_n 3, 1) := by decide +kernel
theorem dX12_put_61 : decode cX12_put 61 = .ok (.i2b, 1) := by decide +kernel
theorem dX12_put_62 : decode cX12_put 62 = .ok (.iastore, 1) := by decide +kernel
theorem dX12_put_63 : decode cX12_put 63 = .ok (.iload 5, 2) := by decide +kernel
theorem dX12_put_65 : decode cX12_put 65 = .ok (.sipush 1000, 3) := by decide +kernel
theorem dX12_put_68 : decode cX12_put 68 = .ok (.iadd, 1) := by decide +kernel
theorem dX12_put_69 : decode cX12_put 69 = .ok (.ireturn, 1) := by decide +kernel
theorem dX12_size_0 : decode cX12_size 0 = .ok (.aload_n 0, 1) := by decide +kernel
theorem dX12_size_1 : decode cX12_size 1 = .ok (.iload_n 1, 1) := by decide +kernel
theorem dX12_size_2 : decode cX12_size 2 = .ok (.invokevirtual 201, 3) := by decide +kernel
theorem dX12_size_5 : decode cX12_size 5 = .ok (.istore_n 2, 1) := by decide +kernel
theorem dX12_size_6 : decode cX12_size 6 = .ok (.iload_n 2, 1) := by decide +kernel
theorem dX12_size_7 : decode cX12_size 7 = .ok (.ifCond .ge 7, 3) := by decide +kernel
theorem dX12_size_10 : decode cX12_size 10 = .ok (.iload_n 2, 1) := by decide +kernel
theorem dX12_size_11 : decode cX12_size 11 = .ok (.goto 9, 3) := by decide +kernel
theorem dX12_size_14 : decode cX12_size 14 = .ok (.aload_n 0, 1) := by decide +kernel
theorem dX12_size_15 : decode cX12_size 15 = .ok (.getfield 26, 3) := by decide +kernel
theorem dX12_size_18 : decode cX12_size 18 = .ok (.iload_n 1, 1) := by decide +kernel
theorem dX12_size_19 : decode cX12_size 19 = .ok (.iaload, 1) := by decide +kernel
theorem dX12_size_20 : decode cX12_size 20 = .ok (.ireturn, 1) := by decide +kernel
theorem dX12_isShape_0 : decode cX12_isShape 0 = .ok (.iload_n 0, 1) := by decide +kernel
theorem dX12_isShape_1 : decode cX12_isShape 1 = .ok (.iconst 0, 1) := by decide +kernel
theorem dX12_isShape_2 : decode cX12_isShape 2 = .ok (.iconst 3, 1) := by decide +kernel
theorem dX12_isShape_3 : decode cX12_isShape 3 = .ok (.invokestatic 175, 3) := by decide +kernel
theorem dX12_isShape_6 : decode cX12_isShape 6 = .ok (.ireturn, 1) := by decide +kernel
theorem dX12_askedShape_0 : decode cX12_askedShape 0 = .ok (.iload_n 1, 1) := by decide +kernel
theorem dX12_askedShape_1 : decode cX12_askedShape 1 = .ok (.invokestatic 204, 3) := by decide +kernel
theorem dX12_askedShape_4 : decode cX12_askedShape 4 = .ok (.ifCond .ne 7, 3) := by decide +kernel
theorem dX12_askedShape_7 : decode cX12_askedShape 7 = .ok (.iconst (-1), 1) := by decide +kernel
theorem dX12_askedShape_8 : decode cX12_askedShape 8 = .ok (.goto 21, 3) := by decide +kernel
theorem dX12_askedShape_11 : decode cX12_askedShape 11 = .ok (.aload_n 0, 1) := by decide +kernel
theorem dX12_askedShape_12 : decode cX12_askedShape 12 = .ok (.getfield 32, 3) := by decide +kernel
theorem dX12_askedShape_15 : decode cX12_askedShape 15 = .ok (.iload_n 1, 1) := by decide +kernel
theorem dX12_askedShape_16 : decode cX12_askedShape 16 = .ok (.iaload, 1) := by decide +kernel
theorem dX12_askedShape_17 : decode cX12_askedShape 17 = .ok (.ifCond .ge 11, 3) := by decide +kernel
theorem dX12_askedShape_20 : decode cX12_askedShape 20 = .ok (.aload_n 0, 1) := by decide +kernel
theorem dX12_askedShape_21 : decode cX12_askedShape 21 = .ok (.iconst 1, 1) := by decide +kernel
theorem dX12_askedShape_22 : decode cX12_askedShape 22 = .ok (.invokevirtual 183, 3) := by decide +kernel
theorem dX12_askedShape_25 : decode cX12_askedShape 25 = .ok (.goto 4, 3) := by decide +kernel
theorem dX12_askedShape_28 : decode cX12_askedShape 28 = .ok (.iconst 0, 1) := by decide +kernel
theorem dX12_askedShape_29 : decode cX12_askedShape 29 = .ok (.ireturn, 1) := by decide +kernel
theorem dX12_here_0 : decode cX12_here 0 = .ok (.aload_n 0, 1) := by decide +kernel
theorem dX12_here_1 : decode cX12_here 1 = .ok (.getfield 207, 3) := by decide +kernel
theorem dX12_here_4 : decode cX12_here 4 = .ok (.aload_n 0, 1) := by decide +kernel
theorem dX12_here_5 : decode cX12_here 5 = .ok (.getfield 26, 3) := by decide +kernel
theorem dX12_here_8 : decode cX12_here 8 = .ok (.iload_n 1, 1) := by decide +kernel
theorem dX12_here_9 : decode cX12_here 9 = .ok (.iaload, 1) := by decide +kernel
theorem dX12_here_10 : decode cX12_here 10 = .ok (.if_icmp .ge 20, 3) := by decide +kernel
theorem dX12_here_13 : decode cX12_here 13 = .ok (.aload_n 0, 1) := by decide +kernel
theorem dX12_here_14 : decode cX12_here 14 = .ok (.getfield 29, 3) := by decide +kernel
theorem dX12_here_17 : decode cX12_here 17 = .ok (.bipush 60, 2) := by decide +kernel
theorem dX12_here_19 : decode cX12_here 19 = .ok (.iload_n 1, 1) := by decide +kernel
theorem dX12_here_20 : decode cX12_here 20 = .ok (.imul, 1) := by decide +kernel
theorem dX12_here_21 : decode cX12_here 21 = .ok (.aload_n 0, 1) := by decide +kernel
theorem dX12_here_22 : decode cX12_here 22 = .ok (.getfield 207, 3) := by decide +kernel
theorem dX12_here_25 : decode cX12_here 25 = .ok (.iadd, 1) := by decide +kernel
theorem dX12_here_26 : decode cX12_here 26 = .ok (.iaload, 1) := by decide +kernel
theorem dX12_here_27 : decode cX12_here 27 = .ok (.goto 5, 3) := by decide +kernel
theorem dX12_here_30 : decode cX12_here 30 = .ok (.bipush (-9), 2) := by decide +kernel
theorem dX12_here_32 : decode cX12_here 32 = .ok (.ireturn, 1) := by decide +kernel
theorem dX12_isFigure_0 : decode cX12_isFigure 0 = .ok (.aload_n 0, 1) := by decide +kernel
theorem dX12_isFigure_1 : decode cX12_isFigure 1 = .ok (.iload_n 1, 1) := by decide +kernel
theorem dX12_isFigure_2 : decode cX12_isFigure 2 = .ok (.invokevirtual 210, 3) := by decide +kernel
theorem dX12_isFigure_5 : decode cX12_isFigure 5 = .ok (.bipush 48, 2) := by decide +kernel
theorem dX12_isFigure_7 : decode cX12_isFigure 7 = .ok (.bipush 57, 2) := by decide +kernel
theorem dX12_isFigure_9 : decode cX12_isFigure 9 = .ok (.invokestatic 175, 3) := by decide +kernel
theorem dX12_isFigure_12 : decode cX12_isFigure 12 = .ok (.ireturn, 1) := by decide +kernel
theorem dX12_readsItem_0 : decode cX12_readsItem 0 = .ok (.aload_n 0, 1) := by decide +kernel
theorem dX12_readsItem_1 : decode cX12_readsItem 1 = .ok (.iload_n 1, 1) := by decide +kernel
theorem dX12_readsItem_2 : decode cX12_readsItem 2 = .ok (.invokevirtual 210, 3) := by decide +kernel
theorem dX12_readsItem_5 : decode cX12_readsItem 5 = .ok (.bipush 66, 2) := by decide +kernel
theorem dX12_readsItem_7 : decode cX12_readsItem 7 = .ok (.if_icmp .ne 7, 3) := by decide +kernel
theorem dX12_readsItem_10 : decode cX12_readsItem 10 = .ok (.iconst 0, 1) := by decide +kernel
theorem dX12_readsItem_11 : decode cX12_readsItem 11 = .ok (.goto 47, 3) := by decide +kernel
theorem dX12_readsItem_14 : decode cX12_readsItem 14 = .ok (.aload_n 0, 1) := by decide +kernel
theorem dX12_readsItem_15 : decode cX12_readsItem 15 = .ok (.iload_n 1, 1) := by decide +kernel
theorem dX12_readsItem_16 : decode cX12_readsItem 16 = .ok (.invokevirtual 210, 3) := by decide +kernel
theorem dX12_readsItem_19 : decode cX12_readsItem 19 = .ok (.bipush 83, 2) := by decide +kernel
theorem dX12_readsItem_21 : decode cX12_readsItem 21 = .ok (.if_icmp .ne 7, 3) := by decide +kernel
theorem dX12_readsItem_24 : decode cX12_readsItem 24 = .ok (.iconst 1, 1) := by decide +kernel
theorem dX12_readsItem_25 : decode cX12_readsItem 25 = .ok (.goto 33, 3) := by decide +kernel
theorem dX12_readsItem_28 : decode cX12_readsItem 28 = .ok (.aload_n 0, 1) := by decide +kernel
theorem dX12_readsItem_29 : decode cX12_readsItem 29 = .ok (.iload_n 1, 1) := by decide +kernel
theorem dX12_readsItem_30 : decode cX12_readsItem 30 = .ok (.invokevirtual 210, 3) := by decide +kernel
theorem dX12_readsItem_33 : decode cX12_readsItem 33 = .ok (.bipush 82, 2) := by decide +kernel
theorem dX12_readsItem_35 : decode cX12_readsItem 35 = .ok (.if_icmp .ne 7, 3) := by decide +kernel
theorem dX12_readsItem_38 : decode cX12_readsItem 38 = .ok (.iconst 2, 1) := by decide +kernel
theorem dX12_readsItem_39 : decode cX12_readsItem 39 = .ok (.goto 19, 3) := by decide +kernel
theorem dX12_readsItem_42 : decode cX12_readsItem 42 = .ok (.aload_n 0, 1) := by decide +kernel
theorem dX12_readsItem_43 : decode cX12_readsItem 43 = .ok (.iload_n 1, 1) := by decide +kernel
theorem dX12_readsItem_44 : decode cX12_readsItem 44 = .ok (.invokevirtual 210, 3) := by decide +kernel
theorem dX12_readsItem_47 : decode cX12_readsItem 47 = .ok (.bipush 67, 2) := by decide +kernel
theorem dX12_readsItem_49 : decode cX12_readsItem 49 = .ok (.if_icmp .ne 7, 3) := by decide +kernel
theorem dX12_readsItem_52 : decode cX12_readsItem 52 = .ok (.iconst 3, 1) := by decide +kernel
theorem dX12_readsItem_53 : decode cX12_readsItem 53 = .ok (.goto 5, 3) := by decide +kernel
theorem dX12_readsItem_56 : decode cX12_readsItem 56 = .ok (.bipush (-9), 2) := by decide +kernel
theorem dX12_readsItem_58 : decode cX12_readsItem 58 = .ok (.istore_n 3, 1) := by decide +kernel
theorem dX12_readsItem_59 : decode cX12_readsItem 59 = .ok (.iload_n 3, 1) := by decide +kernel
theorem dX12_readsItem_60 : decode cX12_readsItem 60 = .ok (.ifCond .ge 5, 3) := by decide +kernel
theorem dX12_readsItem_63 : decode cX12_readsItem 63 = .ok (.iconst 0, 1) := by decide +kernel
theorem dX12_readsItem_64 : decode cX12_readsItem 64 = .ok (.ireturn, 1) := by decide +kernel
theorem dX12_readsItem_65 : decode cX12_readsItem 65 = .ok (.aload_n 0, 1) := by decide +kernel
theorem dX12_readsItem_66 : decode cX12_readsItem 66 = .ok (.dup, 1) := by decide +kernel
theorem dX12_readsItem_67 : decode cX12_readsItem 67 = .ok (.getfield 207, 3) := by decide +kernel
theorem dX12_readsItem_70 : decode cX12_readsItem 70 = .ok (.iconst 1, 1) := by decide +kernel
theorem dX12_readsItem_71 : decode cX12_readsItem 71 = .ok (.iadd, 1) := by decide +kernel
theorem dX12_readsItem_72 : decode cX12_readsItem 72 = .ok (.putfield 207, 3) := by decide +kernel
theorem dX12_readsItem_75 : decode cX12_readsItem 75 = .ok (.aload_n 0, 1) := by decide +kernel
theorem dX12_readsItem_76 : decode cX12_readsItem 76 = .ok (.getfield 38, 3) := by decide +kernel
theorem dX12_readsItem_79 : decode cX12_readsItem 79 = .ok (.iload_n 2, 1) := by decide +kernel
theorem dX12_readsItem_80 : decode cX12_readsItem 80 = .ok (.iconst 1, 1) := by decide +kernel
theorem dX12_readsItem_81 : decode cX12_readsItem 81 = .ok (.iadd, 1) := by decide +kernel
theorem dX12_readsItem_82 : decode cX12_readsItem 82 = .ok (.iload_n 3, 1) := by decide +kernel
theorem dX12_readsItem_83 : decode cX12_readsItem 83 = .ok (.iastore, 1) := by decide +kernel
theorem dX12_readsItem_84 : decode cX12_readsItem 84 = .ok (.aload_n 0, 1) := by decide +kernel
theorem dX12_readsItem_85 : decode cX12_readsItem 85 = .ok (.getfield 38, 3) := by decide +kernel
theorem dX12_readsItem_88 : decode cX12_readsItem 88 = .ok (.iload_n 2, 1) := by decide +kernel
theorem dX12_readsItem_89 : decode cX12_readsItem 89 = .ok (.iconst 2, 1) := by decide +kernel
theorem dX12_readsItem_90 : decode cX12_readsItem 90 = .ok (.iadd, 1) := by decide +kernel
theorem dX12_readsItem_91 : decode cX12_readsItem 91 = .ok (.iconst 0, 1) := by decide +kernel
theorem dX12_readsItem_92 : decode cX12_readsItem 92 = .ok (.iastore, 1) := by decide +kernel
theorem dX12_readsItem_93 : decode cX12_readsItem 93 = .ok (.aload_n 0, 1) := by decide +kernel
theorem dX12_readsItem_94 : decode cX12_readsItem 94 = .ok (.getfield 38, 3) := by decide +kernel
theorem dX12_readsItem_97 : decode cX12_readsItem 97 = .ok (.iload_n 2, 1) := by decide +kernel
theorem dX12_readsItem_98 : decode cX12_readsItem 98 = .ok (.iconst 3, 1) := by decide +kernel
theorem dX12_readsItem_99 : decode cX12_readsItem 99 = .ok (.iadd, 1) := by decide +kernel
theorem dX12_readsItem_100 : decode cX12_readsItem 100 = .ok (.iconst 0, 1) := by decide +kernel
theorem dX12_readsItem_101 : decode cX12_readsItem 101 = .ok (.iastore, 1) := by decide +kernel
theorem dX12_readsItem_102 : decode cX12_readsItem 102 = .ok (.aload_n 0, 1) := by decide +kernel
theorem dX12_readsItem_103 : decode cX12_readsItem 103 = .ok (.getfield 38, 3) := by decide +kernel
theorem dX12_readsItem_106 : decode cX12_readsItem 106 = .ok (.iload_n 2, 1) := by decide +kernel
theorem dX12_readsItem_107 : decode cX12_readsItem 107 = .ok (.iconst 4, 1) := by decide +kernel
theorem dX12_readsItem_108 : decode cX12_readsItem 108 = .ok (.iadd, 1) := by decide +kernel
theorem dX12_readsItem_109 : decode cX12_readsItem 109 = .ok (.bipush 9, 2) := by decide +kernel
theorem dX12_readsItem_111 : decode cX12_readsItem 111 = .ok (.iastore, 1) := by decide +kernel
theorem dX12_readsItem_112 : decode cX12_readsItem 112 = .ok (.aload_n 0, 1) := by decide +kernel
theorem dX12_readsItem_113 : decode cX12_readsItem 113 = .ok (.getfield 38, 3) := by decide +kernel
theorem dX12_readsItem_116 : decode cX12_readsItem 116 = .ok (.iload_n 2, 1) := by decide +kernel
theorem dX12_readsItem_117 : decode cX12_readsItem 117 = .ok (.iconst 5, 1) := by decide +kernel
theorem dX12_readsItem_118 : decode cX12_readsItem 118 = .ok (.iadd, 1) := by decide +kernel
theorem dX12_readsItem_119 : decode cX12_readsItem 119 = .ok (.bipush (-9), 2) := by decide +kernel
theorem dX12_readsItem_121 : decode cX12_readsItem 121 = .ok (.iastore, 1) := by decide +kernel
theorem dX12_readsItem_122 : decode cX12_readsItem 122 = .ok (.iload_n 3, 1) := by decide +kernel
theorem dX12_readsItem_123 : decode cX12_readsItem 123 = .ok (.iconst 3, 1) := by decide +kernel
theorem dX12_readsItem_124 : decode cX12_readsItem 124 = .ok (.if_icmp .ne 49, 3) := by decide +kernel
theorem dX12_readsItem_127 : decode cX12_readsItem 127 = .ok (.aload_n 0, 1) := by decide +kernel
theorem dX12_readsItem_128 : decode cX12_readsItem 128 = .ok (.iload_n 1, 1) := by decide +kernel
theorem dX12_readsItem_129 : decode cX12_readsItem 129 = .ok (.invokevirtual 213, 3) := by decide +kernel
theorem dX12_readsItem_132 : decode cX12_readsItem 132 = .ok (.ifCond .eq 13, 3) := by decide +kernel
theorem dX12_readsItem_135 : decode cX12_readsItem 135 = .ok (.aload_n 0, 1) := by decide +kernel
theorem dX12_readsItem_136 : decode cX12_readsItem 136 = .ok (.iload_n 1, 1) := by decide +kernel
theorem dX12_readsItem_137 : decode cX12_readsItem 137 = .ok (.invokevirtual 210, 3) := by decide +kernel
theorem dX12_readsItem_140 : decode cX12_readsItem 140 = .ok (.bipush 48, 2) := by decide +kernel
theorem dX12_readsItem_142 : decode cX12_readsItem 142 = .ok (.if_icmp .ne 5, 3) := by decide +kernel
theorem dX12_readsItem_145 : decode cX12_readsItem 145 = .ok (.iconst 0, 1) := by decide +kernel
theorem dX12_readsItem_146 : decode cX12_readsItem 146 = .ok (.ireturn, 1) := by decide +kernel
theorem dX12_readsItem_147 : decode cX12_readsItem 147 = .ok (.aload_n 0, 1) := by decide +kernel
theorem dX12_readsItem_148 : decode cX12_readsItem 148 = .ok (.getfield 38, 3) := by decide +kernel
theorem dX12_readsItem_151 : decode cX12_readsItem 151 = .ok (.iload_n 2, 1) := by decide +kernel
theorem dX12_readsItem_152 : decode cX12_readsItem 152 = .ok (.iconst 2, 1) := by decide +kernel
theorem dX12_readsItem_153 : decode cX12_readsItem 153 = .ok (.iadd, 1) := by decide +kernel
theorem dX12_readsItem_154 : decode cX12_readsItem 154 = .ok (.aload_n 0, 1) := by decide +kernel
theorem dX12_readsItem_155 : decode cX12_readsItem 155 = .ok (.iload_n 1, 1) := by decide +kernel
theorem dX12_readsItem_156 : decode cX12_readsItem 156 = .ok (.invokevirtual 210, 3) := by decide +kernel
theorem dX12_readsItem_159 : decode cX12_readsItem 159 = .ok (.bipush 48, 2) := by decide +kernel
theorem dX12_readsItem_161 : decode cX12_readsItem 161 = .ok (.isub, 1) := by decide +kernel
theorem dX12_readsItem_162 : decode cX12_readsItem 162 = .ok (.iastore, 1) := by decide +kernel
theorem dX12_readsItem_163 : decode cX12_readsItem 163 = .ok (.aload_n 0, 1) := by decide +kernel
theorem dX12_readsItem_164 : decode cX12_readsItem 164 = .ok (.dup, 1) := by decide +kernel
theorem dX12_readsItem_165 : decode cX12_readsItem 165 = .ok (.getfield 207, 3) := by decide +kernel
theorem dX12_readsItem_168 : decode cX12_readsItem 168 = .ok (.iconst 1, 1) := by decide +kernel
theorem dX12_readsItem_169 : decode cX12_readsItem 169 = .ok (.iadd, 1) := by decide +kernel
theorem dX12_readsItem_170 : decode cX12_readsItem 170 = .ok (.putfield 207, 3) := by decide +kernel
theorem dX12_readsItem_173 : decode cX12_readsItem 173 = .ok (.iconst 0, 1) := by decide +kernel
theorem dX12_readsItem_174 : decode cX12_readsItem 174 = .ok (.istore 4, 2) := by decide +kernel
theorem dX12_readsItem_176 : decode cX12_readsItem 176 = .ok (.aload_n 0, 1) := by decide +kernel
theorem dX12_readsItem_177 : decode cX12_readsItem 177 = .ok (.iload_n 1, 1) := by decide +kernel
theorem dX12_readsItem_178 : decode cX12_readsItem 178 = .ok (.invokevirtual 210, 3) := by decide +kernel
theorem dX12_readsItem_181 : decode cX12_readsItem 181 = .ok (.bipush 43, 2) := by decide +kernel
theorem dX12_readsItem_183 : decode cX12_readsItem 183 = .ok (.if_icmp .eq 23, 3) := by decide +kernel
theorem dX12_readsItem_186 : decode cX12_readsItem 186 = .ok (.aload_n 0, 1) := by decide +kernel
theorem dX12_readsItem_187 : decode cX12_readsItem 187 = .ok (.iload_n 1, 1) := by decide +kernel
theorem dX12_readsItem_188 : decode cX12_readsItem 188 = .ok (.invokevirtual 210, 3) := by decide +kernel
theorem dX12_readsItem_191 : decode cX12_readsItem 191 = .ok (.bipush 45, 2) := by decide +kernel
theorem dX12_readsItem_193 : decode cX12_readsItem 193 = .ok (.if_icmp .eq 13, 3) := by decide +kernel
theorem dX12_readsItem_196 : decode cX12_readsItem 196 = .ok (.aload_n 0, 1) := by decide +kernel
theorem dX12_readsItem_197 : decode cX12_readsItem 197 = .ok (.iload_n 1, 1) := by decide +kernel
theorem dX12_readsItem_198 : decode cX12_readsItem 198 = .ok (.invokevirtual 210, 3) := by decide +kernel
theorem dX12_readsItem_201 : decode cX12_readsItem 201 = .ok (.bipush 61, 2) := by decide +kernel
theorem dX12_readsItem_203 : decode cX12_readsItem 203 = .ok (.if_icmp .ne 164, 3) := by decide +kernel
theorem dX12_readsItem_206 : decode cX12_readsItem 206 = .ok (.aload_n 0, 1) := by decide +kernel
theorem dX12_readsItem_207 : decode cX12_readsItem 207 = .ok (.iload_n 1, 1) := by decide +kernel
theorem dX12_readsItem_208 : decode cX12_readsItem 208 = .ok (.invokevirtual 210, 3) := by decide +kernel
theorem dX12_readsItem_211 : decode cX12_readsItem 211 = .ok (.bipush 43, 2) := by decide +kernel
theorem dX12_readsItem_213 : decode cX12_readsItem 213 = .ok (.if_icmp .ne 7, 3) := by decide +kernel
theorem dX12_readsItem_216 : decode cX12_readsItem 216 = .ok (.iconst 0, 1) := by decide +kernel
theorem dX12_readsItem_217 : decode cX12_readsItem 217 = .ok (.goto 18, 3) := by decide +kernel
theorem dX12_readsItem_220 : decode cX12_readsItem 220 = .ok (.aload_n 0, 1) := by decide +kernel
theorem dX12_readsItem_221 : decode cX12_readsItem 221 = .ok (.iload_n 1, 1) := by decide +kernel
theorem dX12_readsItem_222 : decode cX12_readsItem 222 = .ok (.invokevirtual 210, 3) := by decide +kernel
theorem dX12_readsItem_225 : decode cX12_readsItem 225 = .ok (.bipush 45, 2) := by decide +kernel
theorem dX12_readsItem_227 : decode cX12_readsItem 227 = .ok (.if_icmp .ne 7, 3) := by decide +kernel
theorem dX12_readsItem_230 : decode cX12_readsItem 230 = .ok (.iconst 1, 1) := by decide +kernel
theorem dX12_readsItem_231 : decode cX12_readsItem 231 = .ok (.goto 4, 3) := by decide +kernel
theorem dX12_readsItem_234 : decode cX12_readsItem 234 = .ok (.iconst 2, 1) := by decide +kernel
theorem dX12_readsItem_235 : decode cX12_readsItem 235 = .ok (.istore 5, 2) := by decide +kernel
theorem dX12_readsItem_237 : decode cX12_readsItem 237 = .ok (.iload 4, 2) := by decide +kernel
theorem dX12_readsItem_239 : decode cX12_readsItem 239 = .ok (.iload 5, 2) := by decide +kernel
theorem dX12_readsItem_241 : decode cX12_readsItem 241 = .ok (.invokestatic 216, 3) := by decide +kernel
theorem dX12_readsItem_244 : decode cX12_readsItem 244 = .ok (.ifCond .ne 14, 3) := by decide +kernel
theorem dX12_readsItem_247 : decode cX12_readsItem 247 = .ok (.iload 5, 2) := by decide +kernel
theorem dX12_readsItem_249 : decode cX12_readsItem 249 = .ok (.iconst 2, 1) := by decide +kernel
theorem dX12_readsItem_250 : decode cX12_readsItem 250 = .ok (.if_icmp .ne 10, 3) := by decide +kernel
theorem dX12_readsItem_253 : decode cX12_readsItem 253 = .ok (.iload_n 3, 1) := by decide +kernel
theorem dX12_readsItem_254 : decode cX12_readsItem 254 = .ok (.iconst 2, 1) := by decide +kernel
theorem dX12_readsItem_255 : decode cX12_readsItem 255 = .ok (.if_icmp .ne 5, 3) := by decide +kernel
theorem dX12_readsItem_258 : decode cX12_readsItem 258 = .ok (.iconst 0, 1) := by decide +kernel
theorem dX12_readsItem_259 : decode cX12_readsItem 259 = .ok (.ireturn, 1) := by decide +kernel
theorem dX12_readsItem_260 : decode cX12_readsItem 260 = .ok (.iload 4, 2) := by decide +kernel
theorem dX12_readsItem_262 : decode cX12_readsItem 262 = .ok (.iconst 1, 1) := by decide +kernel
theorem dX12_readsItem_263 : decode cX12_readsItem 263 = .ok (.iload 5, 2) := by decide +kernel
theorem dX12_readsItem_265 : decode cX12_readsItem 265 = .ok (.ishl, 1) := by decide +kernel
theorem dX12_readsItem_266 : decode cX12_readsItem 266 = .ok (.ior, 1) := by decide +kernel
theorem dX12_readsItem_267 : decode cX12_readsItem 267 = .ok (.istore 4, 2) := by decide +kernel
theorem dX12_readsItem_269 : decode cX12_readsItem 269 = .ok (.aload_n 0, 1) := by decide +kernel
theorem dX12_readsItem_270 : decode cX12_readsItem 270 = .ok (.dup, 1) := by decide +kernel
theorem dX12_readsItem_271 : decode cX12_readsItem 271 = .ok (.getfield 207, 3) := by decide +kernel
theorem dX12_readsItem_274 : decode cX12_readsItem 274 = .ok (.iconst 1, 1) := by decide +kernel
theorem dX12_readsItem_275 : decode cX12_readsItem 275 = .ok (.iadd, 1) := by decide +kernel
theorem dX12_readsItem_276 : decode cX12_readsItem 276 = .ok (.putfield 207, 3) := by decide +kernel
theorem dX12_readsItem_279 : decode cX12_readsItem 279 = .ok (.aload_n 0, 1) := by decide +kernel
theorem dX12_readsItem_280 : decode cX12_readsItem 280 = .ok (.iload_n 1, 1) := by decide +kernel
theorem dX12_readsItem_281 : decode cX12_readsItem 281 = .ok (.invokevirtual 213, 3) := by decide +kernel
theorem dX12_readsItem_284 : decode cX12_readsItem 284 = .ok (.ifCond .ne 5, 3) := by decide +kernel
theorem dX12_readsItem_287 : decode cX12_readsItem 287 = .ok (.iconst 0, 1) := by decide +kernel
theorem dX12_readsItem_288 : decode cX12_readsItem 288 = .ok (.ireturn, 1) := by decide +kernel
theorem dX12_readsItem_289 : decode cX12_readsItem 289 = .ok (.iconst 0, 1) := by decide +kernel
theorem dX12_readsItem_290 : decode cX12_readsItem 290 = .ok (.istore 6, 2) := by decide +kernel
theorem dX12_readsItem_292 : decode cX12_readsItem 292 = .ok (.iconst 0, 1) := by decide +kernel
theorem dX12_readsItem_293 : decode cX12_readsItem 293 = .ok (.istore 7, 2) := by decide +kernel
theorem dX12_readsItem_295 : decode cX12_readsItem 295 = .ok (.iload 7, 2) := by decide +kernel
theorem dX12_readsItem_297 : decode cX12_readsItem 297 = .ok (.iload 5, 2) := by decide +kernel
theorem dX12_readsItem_299 : decode cX12_readsItem 299 = .ok (.iconst 2, 1) := by decide +kernel
theorem dX12_readsItem_300 : decode cX12_readsItem 300 = .ok (.if_icmp .ne 7, 3) := by decide +kernel
theorem dX12_readsItem_303 : decode cX12_readsItem 303 = .ok (.iconst 3, 1) := by decide +kernel
theorem dX12_readsItem_304 : decode cX12_readsItem 304 = .ok (.goto 4, 3) := by decide +kernel
theorem dX12_readsItem_307 : decode cX12_readsItem 307 = .ok (.iconst 1, 1) := by decide +kernel
theorem dX12_readsItem_308 : decode cX12_readsItem 308 = .ok (.if_icmp .ge 43, 3) := by decide +kernel
theorem dX12_readsItem_311 : decode cX12_readsItem 311 = .ok (.aload_n 0, 1) := by decide +kernel
theorem dX12_readsItem_312 : decode cX12_readsItem 312 = .ok (.iload_n 1, 1) := by decide +kernel
theorem dX12_readsItem_313 : decode cX12_readsItem 313 = .ok (.invokevirtual 213, 3) := by decide +kernel
theorem dX12_readsItem_316 : decode cX12_readsItem 316 = .ok (.ifCond .eq 35, 3) := by decide +kernel
theorem dX12_readsItem_319 : decode cX12_readsItem 319 = .ok (.bipush 10, 2) := by decide +kernel
theorem dX12_readsItem_321 : decode cX12_readsItem 321 = .ok (.iload 6, 2) := by decide +kernel
theorem dX12_readsItem_323 : decode cX12_readsItem 323 = .ok (.imul, 1) := by decide +kernel
theorem dX12_readsItem_324 : decode cX12_readsItem 324 = .ok (.aload_n 0, 1) := by decide +kernel
theorem dX12_readsItem_325 : decode cX12_readsItem 325 = .ok (.iload_n 1, 1) := by decide +kernel
theorem dX12_readsItem_326 : decode cX12_readsItem 326 = .ok (.invokevirtual 210, 3) := by decide +kernel
theorem dX12_readsItem_329 : decode cX12_readsItem 329 = .ok (.iadd, 1) := by decide +kernel
theorem dX12_readsItem_330 : decode cX12_readsItem 330 = .ok (.bipush 48, 2) := by decide +kernel
theorem dX12_readsItem_332 : decode cX12_readsItem 332 = .ok (.isub, 1) := by decide +kernel
theorem dX12_readsItem_333 : decode cX12_readsItem 333 = .ok (.istore 6, 2) := by decide +kernel
theorem dX12_readsItem_335 : decode cX12_readsItem 335 = .ok (.aload_n 0, 1) := by decide +kernel
theorem dX12_readsItem_336 : decode cX12_readsItem 336 = .ok (.dup, 1) := by decide +kernel
theorem dX12_readsItem_337 : decode cX12_readsItem 337 = .ok (.getfield 207, 3) := by decide +kernel
theorem dX12_readsItem_340 : decode cX12_readsItem 340 = .ok (.iconst 1, 1) := by decide +kernel
theorem dX12_readsItem_341 : decode cX12_readsItem 341 = .ok (.iadd, 1) := by decide +kernel
theorem dX12_readsItem_342 : decode cX12_readsItem 342 = .ok (.putfield 207, 3) := by decide +kernel
theorem dX12_readsItem_345 : decode cX12_readsItem 345 = .ok (.iinc 7 1, 3) := by decide +kernel
theorem dX12_readsItem_348 : decode cX12_readsItem 348 = .ok (.goto (-53), 3) := by decide +kernel
theorem dX12_readsItem_351 : decode cX12_readsItem 351 = .ok (.aload_n 0, 1) := by decide +kernel
theorem dX12_readsItem_352 : decode cX12_readsItem 352 = .ok (.getfield 38, 3) := by decide +kernel
theorem dX12_readsItem_355 : decode cX12_readsItem 355 = .ok (.iload_n 2, 1) := by decide +kernel
theorem dX12_readsItem_356 : decode cX12_readsItem 356 = .ok (.iconst 3, 1) := by decide +kernel
theorem dX12_readsItem_357 : decode cX12_readsItem 357 = .ok (.iadd, 1) := by decide +kernel
theorem dX12_readsItem_358 : decode cX12_readsItem 358 = .ok (.iload 5, 2) := by decide +kernel
theorem dX12_readsItem_360 : decode cX12_readsItem 360 = .ok (.iadd, 1) := by decide +kernel
theorem dX12_readsItem_361 : decode cX12_readsItem 361 = .ok (.iload 6, 2) := by decide +kernel
theorem dX12_readsItem_363 : decode cX12_readsItem 363 = .ok (.iastore, 1) := by decide +kernel
theorem dX12_readsItem_364 : decode cX12_readsItem 364 = .ok (.goto (-188), 3) := by decide +kernel
theorem dX12_readsItem_367 : decode cX12_readsItem 367 = .ok (.aload_n 0, 1) := by decide +kernel
theorem dX12_readsItem_368 : decode cX12_readsItem 368 = .ok (.iload_n 2, 1) := by decide +kernel
theorem dX12_readsItem_369 : decode cX12_readsItem 369 = .ok (.invokevirtual 220, 3) := by decide +kernel
theorem dX12_readsItem_372 : decode cX12_readsItem 372 = .ok (.ireturn, 1) := by decide +kernel
theorem dX12_isItem_0 : decode cX12_isItem 0 = .ok (.aload_n 0, 1) := by decide +kernel
theorem dX12_isItem_1 : decode cX12_isItem 1 = .ok (.getfield 38, 3) := by decide +kernel
theorem dX12_isItem_4 : decode cX12_isItem 4 = .ok (.iload_n 1, 1) := by decide +kernel
theorem dX12_isItem_5 : decode cX12_isItem 5 = .ok (.iconst 1, 1) := by decide +kernel
theorem dX12_isItem_6 : decode cX12_isItem 6 = .ok (.iadd, 1) := by decide +kernel
theorem dX12_isItem_7 : decode cX12_isItem 7 = .ok (.iaload, 1) := by decide +kernel
theorem dX12_isItem_8 : decode cX12_isItem 8 = .ok (.istore_n 2, 1) := by decide +kernel
theorem dX12_isItem_9 : decode cX12_isItem 9 = .ok (.aload_n 0, 1) := by decide +kernel
theorem dX12_isItem_10 : decode cX12_isItem 10 = .ok (.getfield 38, 3) := by decide +kernel
theorem dX12_isItem_13 : decode cX12_isItem 13 = .ok (.iload_n 1, 1) := by decide +kernel
theorem dX12_isItem_14 : decode cX12_isItem 14 = .ok (.iconst 5, 1) := by decide +kernel
theorem dX12_isItem_15 : decode cX12_isItem 15 = .ok (.iadd, 1) := by decide +kernel
theorem dX12_isItem_16 : decode cX12_isItem 16 = .ok (.iaload, 1) := by decide +kernel
theorem dX12_isItem_17 : decode cX12_isItem 17 = .ok (.istore_n 3, 1) := by decide +kernel
theorem dX12_isItem_18 : decode cX12_isItem 18 = .ok (.aload_n 0, 1) := by decide +kernel
theorem dX12_isItem_19 : decode cX12_isItem 19 = .ok (.getfield 38, 3) := by decide +kernel
theorem dX12_isItem_22 : decode cX12_isItem 22 = .ok (.iload_n 1, 1) := by decide +kernel
theorem dX12_isItem_23 : decode cX12_isItem 23 = .ok (.iconst 3, 1) := by decide +kernel
theorem dX12_isItem_24 : decode cX12_isItem 24 = .ok (.iadd, 1) := by decide +kernel
theorem dX12_isItem_25 : decode cX12_isItem 25 = .ok (.iaload, 1) := by decide +kernel
theorem dX12_isItem_26 : decode cX12_isItem 26 = .ok (.aload_n 0, 1) := by decide +kernel
theorem dX12_isItem_27 : decode cX12_isItem 27 = .ok (.getfield 38, 3) := by decide +kernel
theorem dX12_isItem_30 : decode cX12_isItem 30 = .ok (.iload_n 1, 1) := by decide +kernel
theorem dX12_isItem_31 : decode cX12_isItem 31 = .ok (.iconst 4, 1) := by decide +kernel
theorem dX12_isItem_32 : decode cX12_isItem 32 = .ok (.iadd, 1) := by decide +kernel
theorem dX12_isItem_33 : decode cX12_isItem 33 = .ok (.iaload, 1) := by decide +kernel
theorem dX12_isItem_34 : decode cX12_isItem 34 = .ok (.if_icmp .gt 44, 3) := by decide +kernel
theorem dX12_isItem_37 : decode cX12_isItem 37 = .ok (.iload_n 3, 1) := by decide +kernel
theorem dX12_isItem_38 : decode cX12_isItem 38 = .ok (.ifCond .lt 36, 3) := by decide +kernel
theorem dX12_isItem_41 : decode cX12_isItem 41 = .ok (.iload_n 2, 1) := by decide +kernel
theorem dX12_isItem_42 : decode cX12_isItem 42 = .ok (.iconst 1, 1) := by decide +kernel
theorem dX12_isItem_43 : decode cX12_isItem 43 = .ok (.if_icmp .eq 31, 3) := by decide +kernel
theorem dX12_isItem_46 : decode cX12_isItem 46 = .ok (.iload_n 2, 1) := by decide +kernel
theorem dX12_isItem_47 : decode cX12_isItem 47 = .ok (.ifCond .ne 10, 3) := by decide +kernel
theorem dX12_isItem_50 : decode cX12_isItem 50 = .ok (.iload_n 3, 1) := by decide +kernel
theorem dX12_isItem_51 : decode cX12_isItem 51 = .ok (.sipush 255, 3) := by decide +kernel
theorem dX12_isItem_54 : decode cX12_isItem 54 = .ok (.if_icmp .le 20, 3) := by decide +kernel
theorem dX12_isItem_57 : decode cX12_isItem 57 = .ok (.iload_n 2, 1) := by decide +kernel
theorem dX12_isItem_58 : decode cX12_isItem 58 = .ok (.iconst 3, 1) := by decide +kernel
theorem dX12_isItem_59 : decode cX12_isItem 59 = .ok (.if_icmp .ne 19, 3) := by decide +kernel
theorem dX12_isItem_62 : decode cX12_isItem 62 = .ok (.iload_n 3, 1) := by decide +kernel
theorem dX12_isItem_63 : decode cX12_isItem 63 = .ok (.aload_n 0, 1) := by decide +kernel
theorem dX12_isItem_64 : decode cX12_isItem 64 = .ok (.getfield 38, 3) := by decide +kernel
theorem dX12_isItem_67 : decode cX12_isItem 67 = .ok (.iload_n 1, 1) := by decide +kernel
theorem dX12_isItem_68 : decode cX12_isItem 68 = .ok (.iconst 2, 1) := by decide +kernel
theorem dX12_isItem_69 : decode cX12_isItem 69 = .ok (.iadd, 1) := by decide +kernel
theorem dX12_isItem_70 : decode cX12_isItem 70 = .ok (.iaload, 1) := by decide +kernel
theorem dX12_isItem_71 : decode cX12_isItem 71 = .ok (.if_icmp .ge 7, 3) := by decide +kernel
theorem dX12_isItem_74 : decode cX12_isItem 74 = .ok (.iconst 1, 1) := by decide +kernel
theorem dX12_isItem_75 : decode cX12_isItem 75 = .ok (.goto 4, 3) := by decide +kernel
theorem dX12_isItem_78 : decode cX12_isItem 78 = .ok (.iconst 0, 1) := by decide +kernel
theorem dX12_isItem_79 : decode cX12_isItem 79 = .ok (.istore 4, 2) := by decide +kernel
theorem dX12_isItem_81 : decode cX12_isItem 81 = .ok (.iconst 0, 1) := by decide +kernel
theorem dX12_isItem_82 : decode cX12_isItem 82 = .ok (.istore 5, 2) := by decide +kernel
theorem dX12_isItem_84 : decode cX12_isItem 84 = .ok (.iload 5, 2) := by decide +kernel
theorem dX12_isItem_86 : decode cX12_isItem 86 = .ok (.iload_n 1, 1) := by decide +kernel
theorem dX12_isItem_87 : decode cX12_isItem 87 = .ok (.if_icmp .ge 89, 3) := by decide +kernel
theorem dX12_isItem_90 : decode cX12_isItem 90 = .ok (.aload_n 0, 1) := by decide +kernel
theorem dX12_isItem_91 : decode cX12_isItem 91 = .ok (.getfield 38, 3) := by decide +kernel
theorem dX12_isItem_94 : decode cX12_isItem 94 = .ok (.iload 5, 2) := by decide +kernel
theorem dX12_isItem_96 : decode cX12_isItem 96 = .ok (.iconst 4, 1) := by decide +kernel
theorem dX12_isItem_97 : decode cX12_isItem 97 = .ok (.iadd, 1) := by decide +kernel
theorem dX12_isItem_98 : decode cX12_isItem 98 = .ok (.iaload, 1) := by decide +kernel
theorem dX12_isItem_99 : decode cX12_isItem 99 = .ok (.aload_n 0, 1) := by decide +kernel
theorem dX12_isItem_100 : decode cX12_isItem 100 = .ok (.getfield 38, 3) := by decide +kernel
theorem dX12_isItem_103 : decode cX12_isItem 103 = .ok (.iload_n 1, 1) := by decide +kernel
theorem dX12_isItem_104 : decode cX12_isItem 104 = .ok (.iconst 3, 1) := by decide +kernel
theorem dX12_isItem_105 : decode cX12_isItem 105 = .ok (.iadd, 1) := by decide +kernel
theorem dX12_isItem_106 : decode cX12_isItem 106 = .ok (.iaload, 1) := by decide +kernel
theorem dX12_isItem_107 : decode cX12_isItem 107 = .ok (.if_icmp .lt 23, 3) := by decide +kernel
theorem dX12_isItem_110 : decode cX12_isItem 110 = .ok (.aload_n 0, 1) := by decide +kernel
theorem dX12_isItem_111 : decode cX12_isItem 111 = .ok (.getfield 38, 3) := by decide +kernel
theorem dX12_isItem_114 : decode cX12_isItem 114 = .ok (.iload_n 1, 1) := by decide +kernel
theorem dX12_isItem_115 : decode cX12_isItem 115 = .ok (.iconst 4, 1) := by decide +kernel
theorem dX12_isItem_116 : decode cX12_isItem 116 = .ok (.iadd, 1) := by decide +kernel
theorem dX12_isItem_117 : decode cX12_isItem 117 = .ok (.iaload, 1) := by decide +kernel
theorem dX12_isItem_118 : decode cX12_isItem 118 = .ok (.aload_n 0, 1) := by decide +kernel
theorem dX12_isItem_119 : decode cX12_isItem 119 = .ok (.getfield 38, 3) := by decide +kernel
theorem dX12_isItem_122 : decode cX12_isItem 122 = .ok (.iload 5, 2) := by decide +kernel
theorem dX12_isItem_124 : decode cX12_isItem 124 = .ok (.iconst 3, 1) := by decide +kernel
theorem dX12_isItem_125 : decode cX12_isItem 125 = .ok (.iadd, 1) := by decide +kernel
theorem dX12_isItem_126 : decode cX12_isItem 126 = .ok (.iaload, 1) := by decide +kernel
theorem dX12_isItem_127 : decode cX12_isItem 127 = .ok (.if_icmp .ge 7, 3) := by decide +kernel
theorem dX12_isItem_130 : decode cX12_isItem 130 = .ok (.iconst 1, 1) := by decide +kernel
theorem dX12_isItem_131 : decode cX12_isItem 131 = .ok (.goto 4, 3) := by decide +kernel
theorem dX12_isItem_134 : decode cX12_isItem 134 = .ok (.iconst 0, 1) := by decide +kernel
theorem dX12_isItem_135 : decode cX12_isItem 135 = .ok (.istore 6, 2) := by decide +kernel
theorem dX12_isItem_137 : decode cX12_isItem 137 = .ok (.iload 4, 2) := by decide +kernel
theorem dX12_isItem_139 : decode cX12_isItem 139 = .ok (.ifCond .eq 28, 3) := by decide +kernel
theorem dX12_isItem_142 : decode cX12_isItem 142 = .ok (.aload_n 0, 1) := by decide +kernel
theorem dX12_isItem_143 : decode cX12_isItem 143 = .ok (.getfield 38, 3) := by decide +kernel
theorem dX12_isItem_146 : decode cX12_isItem 146 = .ok (.iload 5, 2) := by decide +kernel
theorem dX12_isItem_148 : decode cX12_isItem 148 = .ok (.iaload, 1) := by decide +kernel
theorem dX12_isItem_149 : decode cX12_isItem 149 = .ok (.aload_n 0, 1) := by decide +kernel
theorem dX12_isItem_150 : decode cX12_isItem 150 = .ok (.getfield 38, 3) := by decide +kernel
theorem dX12_isItem_153 : decode cX12_isItem 153 = .ok (.iload_n 1, 1) := by decide +kernel
theorem dX12_isItem_154 : decode cX12_isItem 154 = .ok (.iaload, 1) := by decide +kernel
theorem dX12_isItem_155 : decode cX12_isItem 155 = .ok (.if_icmp .ne 8, 3) := by decide +kernel
theorem dX12_isItem_158 : decode cX12_isItem 158 = .ok (.iload 6, 2) := by decide +kernel
theorem dX12_isItem_160 : decode cX12_isItem 160 = .ok (.ifCond .eq 7, 3) := by decide +kernel
theorem dX12_isItem_163 : decode cX12_isItem 163 = .ok (.iconst 1, 1) := by decide +kernel
theorem dX12_isItem_164 : decode cX12_isItem 164 = .ok (.goto 4, 3) := by decide +kernel
theorem dX12_isItem_167 : decode cX12_isItem 167 = .ok (.iconst 0, 1) := by decide +kernel
theorem dX12_isItem_168 : decode cX12_isItem 168 = .ok (.istore 4, 2) := by decide +kernel
theorem dX12_isItem_170 : decode cX12_isItem 170 = .ok (.iinc 5 6, 3) := by decide +kernel
theorem dX12_isItem_173 : decode cX12_isItem 173 = .ok (.goto (-89), 3) := by decide +kernel
theorem dX12_isItem_176 : decode cX12_isItem 176 = .ok (.iload 4, 2) := by decide +kernel
theorem dX12_isItem_178 : decode cX12_isItem 178 = .ok (.ireturn, 1) := by decide +kernel
theorem dX12_reads_0 : decode cX12_reads 0 = .ok (.aload_n 0, 1) := by decide +kernel
theorem dX12_reads_1 : decode cX12_reads 1 = .ok (.iconst 0, 1) := by decide +kernel
theorem dX12_reads_2 : decode cX12_reads 2 = .ok (.putfield 207, 3) := by decide +kernel
theorem dX12_reads_5 : decode cX12_reads 5 = .ok (.aload_n 0, 1) := by decide +kernel
theorem dX12_reads_6 : decode cX12_reads 6 = .ok (.iconst 0, 1) := by decide +kernel
theorem dX12_reads_7 : decode cX12_reads 7 = .ok (.putfield 223, 3) := by decide +kernel
theorem dX12_reads_10 : decode cX12_reads 10 = .ok (.aload_n 0, 1) := by decide +kernel
theorem dX12_reads_11 : decode cX12_reads 11 = .ok (.getfield 207, 3) := by decide +kernel
theorem dX12_reads_14 : decode cX12_reads 14 = .ok (.aload_n 0, 1) := by decide +kernel
theorem dX12_reads_15 : decode cX12_reads 15 = .ok (.getfield 26, 3) := by decide +kernel
theorem dX12_reads_18 : decode cX12_reads 18 = .ok (.iload_n 1, 1) := by decide +kernel
theorem dX12_reads_19 : decode cX12_reads 19 = .ok (.iaload, 1) := by decide +kernel
theorem dX12_reads_20 : decode cX12_reads 20 = .ok (.if_icmp .ge 118, 3) := by decide +kernel
theorem dX12_reads_23 : decode cX12_reads 23 = .ok (.aload_n 0, 1) := by decide +kernel
theorem dX12_reads_24 : decode cX12_reads 24 = .ok (.iload_n 1, 1) := by decide +kernel
theorem dX12_reads_25 : decode cX12_reads 25 = .ok (.invokevirtual 210, 3) := by decide +kernel
theorem dX12_reads_28 : decode cX12_reads 28 = .ok (.bipush 32, 2) := by decide +kernel
theorem dX12_reads_30 : decode cX12_reads 30 = .ok (.if_icmp .ne 16, 3) := by decide +kernel
theorem dX12_reads_33 : decode cX12_reads 33 = .ok (.aload_n 0, 1) := by decide +kernel
theorem dX12_reads_34 : decode cX12_reads 34 = .ok (.dup, 1) := by decide +kernel
theorem dX12_reads_35 : decode cX12_reads 35 = .ok (.getfield 207, 3) := by decide +kernel
theorem dX12_reads_38 : decode cX12_reads 38 = .ok (.iconst 1, 1) := by decide +kernel
theorem dX12_reads_39 : decode cX12_reads 39 = .ok (.iadd, 1) := by decide +kernel
theorem dX12_reads_40 : decode cX12_reads 40 = .ok (.putfield 207, 3) := by decide +kernel
theorem dX12_reads_43 : decode cX12_reads 43 = .ok (.goto (-33), 3) := by decide +kernel
theorem dX12_reads_46 : decode cX12_reads 46 = .ok (.aload_n 0, 1) := by decide +kernel
theorem dX12_reads_47 : decode cX12_reads 47 = .ok (.iload_n 1, 1) := by decide +kernel
theorem dX12_reads_48 : decode cX12_reads 48 = .ok (.invokevirtual 210, 3) := by decide +kernel
theorem dX12_reads_51 : decode cX12_reads 51 = .ok (.bipush 97, 2) := by decide +kernel
theorem dX12_reads_53 : decode cX12_reads 53 = .ok (.bipush 112, 2) := by decide +kernel
theorem dX12_reads_55 : decode cX12_reads 55 = .ok (.invokestatic 175, 3) := by decide +kernel
theorem dX12_reads_58 : decode cX12_reads 58 = .ok (.ifCond .eq 12, 3) := by decide +kernel
theorem dX12_reads_61 : decode cX12_reads 61 = .ok (.aload_n 0, 1) := by decide +kernel
theorem dX12_reads_62 : decode cX12_reads 62 = .ok (.getfield 223, 3) := by decide +kernel
theorem dX12_reads_65 : decode cX12_reads 65 = .ok (.bipush 12, 2) := by decide +kernel
theorem dX12_reads_67 : decode cX12_reads 67 = .ok (.if_icmp .ne 8, 3) := by decide +kernel
theorem dX12_reads_70 : decode cX12_reads 70 = .ok (.aload_n 0, 1) := by decide +kernel
theorem dX12_reads_71 : decode cX12_reads 71 = .ok (.getfield 207, 3) := by decide +kernel
theorem dX12_reads_74 : decode cX12_reads 74 = .ok (.ireturn, 1) := by decide +kernel
theorem dX12_reads_75 : decode cX12_reads 75 = .ok (.aload_n 0, 1) := by decide +kernel
theorem dX12_reads_76 : decode cX12_reads 76 = .ok (.getfield 38, 3) := by decide +kernel
theorem dX12_reads_79 : decode cX12_reads 79 = .ok (.bipush 6, 2) := by decide +kernel
theorem dX12_reads_81 : decode cX12_reads 81 = .ok (.aload_n 0, 1) := by decide +kernel
theorem dX12_reads_82 : decode cX12_reads 82 = .ok (.getfield 223, 3) := by decide +kernel
theorem dX12_reads_85 : decode cX12_reads 85 = .ok (.imul, 1) := by decide +kernel
theorem dX12_reads_86 : decode cX12_reads 86 = .ok (.aload_n 0, 1) := by decide +kernel
theorem dX12_reads_87 : decode cX12_reads 87 = .ok (.iload_n 1, 1) := by decide +kernel
theorem dX12_reads_88 : decode cX12_reads 88 = .ok (.invokevirtual 210, 3) := by decide +kernel
theorem dX12_reads_91 : decode cX12_reads 91 = .ok (.bipush 97, 2) := by decide +kernel
theorem dX12_reads_93 : decode cX12_reads 93 = .ok (.isub, 1) := by decide +kernel
theorem dX12_reads_94 : decode cX12_reads 94 = .ok (.iastore, 1) := by decide +kernel
theorem dX12_reads_95 : decode cX12_reads 95 = .ok (.aload_n 0, 1) := by decide +kernel
theorem dX12_reads_96 : decode cX12_reads 96 = .ok (.dup, 1) := by decide +kernel
theorem dX12_reads_97 : decode cX12_reads 97 = .ok (.getfield 207, 3) := by decide +kernel
theorem dX12_reads_100 : decode cX12_reads 100 = .ok (.iconst 1, 1) := by decide +kernel
theorem dX12_reads_101 : decode cX12_reads 101 = .ok (.iadd, 1) := by decide +kernel
theorem dX12_reads_102 : decode cX12_reads 102 = .ok (.putfield 207, 3) := by decide +kernel
theorem dX12_reads_105 : decode cX12_reads 105 = .ok (.aload_n 0, 1) := by decide +kernel
theorem dX12_reads_106 : decode cX12_reads 106 = .ok (.iload_n 1, 1) := by decide +kernel
theorem dX12_reads_107 : decode cX12_reads 107 = .ok (.bipush 6, 2) := by decide +kernel
theorem dX12_reads_109 : decode cX12_reads 109 = .ok (.aload_n 0, 1) := by decide +kernel
theorem dX12_reads_110 : decode cX12_reads 110 = .ok (.getfield 223, 3) := by decide +kernel
theorem dX12_reads_113 : decode cX12_reads 113 = .ok (.imul, 1) := by decide +kernel
theorem dX12_reads_114 : decode cX12_reads 114 = .ok (.invokevirtual 226, 3) := by decide +kernel
theorem dX12_reads_117 : decode cX12_reads 117 = .ok (.ifCond .ne 8, 3) := by decide +kernel
theorem dX12_reads_120 : decode cX12_reads 120 = .ok (.aload_n 0, 1) := by decide +kernel
theorem dX12_reads_121 : decode cX12_reads 121 = .ok (.getfield 207, 3) := by decide +kernel
theorem dX12_reads_124 : decode cX12_reads 124 = .ok (.ireturn, 1) := by decide +kernel
theorem dX12_reads_125 : decode cX12_reads 125 = .ok (.aload_n 0, 1) := by decide +kernel
theorem dX12_reads_126 : decode cX12_reads 126 = .ok (.dup, 1) := by decide +kernel
theorem dX12_reads_127 : decode cX12_reads 127 = .ok (.getfield 223, 3) := by decide +kernel
theorem dX12_reads_130 : decode cX12_reads 130 = .ok (.iconst 1, 1) := by decide +kernel
theorem dX12_reads_131 : decode cX12_reads 131 = .ok (.iadd, 1) := by decide +kernel
theorem dX12_reads_132 : decode cX12_reads 132 = .ok (.putfield 223, 3) := by decide +kernel
theorem dX12_reads_135 : decode cX12_reads 135 = .ok (.goto (-125), 3) := by decide +kernel
theorem dX12_reads_138 : decode cX12_reads 138 = .ok (.bipush (-9), 2) := by decide +kernel
theorem dX12_reads_140 : decode cX12_reads 140 = .ok (.ireturn, 1) := by decide +kernel
theorem dX12_fault_0 : decode cX12_fault 0 = .ok (.aload_n 0, 1) := by decide +kernel
theorem dX12_fault_1 : decode cX12_fault 1 = .ok (.iload_n 1, 1) := by decide +kernel
theorem dX12_fault_2 : decode cX12_fault 2 = .ok (.invokevirtual 201, 3) := by decide +kernel
theorem dX12_fault_5 : decode cX12_fault 5 = .ok (.istore_n 2, 1) := by decide +kernel
theorem dX12_fault_6 : decode cX12_fault 6 = .ok (.iload_n 2, 1) := by decide +kernel
theorem dX12_fault_7 : decode cX12_fault 7 = .ok (.ifCond .ge 7, 3) := by decide +kernel
theorem dX12_fault_10 : decode cX12_fault 10 = .ok (.iload_n 2, 1) := by decide +kernel
theorem dX12_fault_11 : decode cX12_fault 11 = .ok (.goto 8, 3) := by decide +kernel
theorem dX12_fault_14 : decode cX12_fault 14 = .ok (.aload_n 0, 1) := by decide +kernel
theorem dX12_fault_15 : decode cX12_fault 15 = .ok (.iload_n 1, 1) := by decide +kernel
theorem dX12_fault_16 : decode cX12_fault 16 = .ok (.invokevirtual 229, 3) := by decide +kernel
theorem dX12_fault_19 : decode cX12_fault 19 = .ok (.ireturn, 1) := by decide +kernel
theorem dX12_shape_0 : decode cX12_shape 0 = .ok (.iload_n 1, 1) := by decide +kernel
theorem dX12_shape_1 : decode cX12_shape 1 = .ok (.invokestatic 204, 3) := by decide +kernel
theorem dX12_shape_4 : decode cX12_shape 4 = .ok (.ifCond .eq 10, 3) := by decide +kernel
theorem dX12_shape_7 : decode cX12_shape 7 = .ok (.iload_n 2, 1) := by decide +kernel
theorem dX12_shape_8 : decode cX12_shape 8 = .ok (.invokestatic 179, 3) := by decide +kernel
theorem dX12_shape_11 : decode cX12_shape 11 = .ok (.ifCond .ne 5, 3) := by decide +kernel
theorem dX12_shape_14 : decode cX12_shape 14 = .ok (.iconst (-1), 1) := by decide +kernel
theorem dX12_shape_15 : decode cX12_shape 15 = .ok (.ireturn, 1) := by decide +kernel
theorem dX12_shape_16 : decode cX12_shape 16 = .ok (.aload_n 0, 1) := by decide +kernel
theorem dX12_shape_17 : decode cX12_shape 17 = .ok (.getfield 26, 3) := by decide +kernel
theorem dX12_shape_20 : decode cX12_shape 20 = .ok (.iload_n 2, 1) := by decide +kernel
theorem dX12_shape_21 : decode cX12_shape 21 = .ok (.iaload, 1) := by decide +kernel
theorem dX12_shape_22 : decode cX12_shape 22 = .ok (.ifCond .ge 9, 3) := by decide +kernel
theorem dX12_shape_25 : decode cX12_shape 25 = .ok (.aload_n 0, 1) := by decide +kernel
theorem dX12_shape_26 : decode cX12_shape 26 = .ok (.iconst 1, 1) := by decide +kernel
theorem dX12_shape_27 : decode cX12_shape 27 = .ok (.invokevirtual 183, 3) := by decide +kernel
theorem dX12_shape_30 : decode cX12_shape 30 = .ok (.ireturn, 1) := by decide +kernel
theorem dX12_shape_31 : decode cX12_shape 31 = .ok (.aload_n 0, 1) := by decide +kernel
theorem dX12_shape_32 : decode cX12_shape 32 = .ok (.iload_n 2, 1) := by decide +kernel
theorem dX12_shape_33 : decode cX12_shape 33 = .ok (.invokevirtual 229, 3) := by decide +kernel
theorem dX12_shape_36 : decode cX12_shape 36 = .ok (.bipush (-9), 2) := by decide +kernel
theorem dX12_shape_38 : decode cX12_shape 38 = .ok (.if_icmp .eq 6, 3) := by decide +kernel
theorem dX12_shape_41 : decode cX12_shape 41 = .ok (.bipush (-4), 2) := by decide +kernel
theorem dX12_shape_43 : decode cX12_shape 43 = .ok (.ireturn, 1) := by decide +kernel
theorem dX12_shape_44 : decode cX12_shape 44 = .ok (.aload_n 0, 1) := by decide +kernel
theorem dX12_shape_45 : decode cX12_shape 45 = .ok (.getfield 32, 3) := by decide +kernel
theorem dX12_shape_48 : decode cX12_shape 48 = .ok (.iload_n 1, 1) := by decide +kernel
theorem dX12_shape_49 : decode cX12_shape 49 = .ok (.aload_n 0, 1) := by decide +kernel
theorem dX12_shape_50 : decode cX12_shape 50 = .ok (.getfield 223, 3) := by decide +kernel
theorem dX12_shape_53 : decode cX12_shape 53 = .ok (.iastore, 1) := by decide +kernel
theorem dX12_shape_54 : decode cX12_shape 54 = .ok (.iconst 0, 1) := by decide +kernel
theorem dX12_shape_55 : decode cX12_shape 55 = .ok (.istore_n 3, 1) := by decide +kernel
theorem dX12_shape_56 : decode cX12_shape 56 = .ok (.iload_n 3, 1) := by decide +kernel
theorem dX12_shape_57 : decode cX12_shape 57 = .ok (.bipush 72, 2) := by decide +kernel
theorem dX12_shape_59 : decode cX12_shape 59 = .ok (.if_icmp .ge 26, 3) := by decide +kernel
theorem dX12_shape_62 : decode cX12_shape 62 = .ok (.aload_n 0, 1) := by decide +kernel
theorem dX12_shape_63 : decode cX12_shape 63 = .ok (.getfield 35, 3) := by decide +kernel
theorem dX12_shape_66 : decode cX12_shape 66 = .ok (.bipush 72, 2) := by decide +kernel
theorem dX12_shape_68 : decode cX12_shape 68 = .ok (.iload_n 1, 1) := by decide +kernel
theorem dX12_shape_69 : decode cX12_shape 69 = .ok (.imul, 1) := by decide +kernel
theorem dX12_shape_70 : decode cX12_shape 70 = .ok (.iload_n 3, 1) := by decide +kernel
theorem dX12_shape_71 : decode cX12_shape 71 = .ok (.iadd, 1) := by decide +kernel
theorem dX12_shape_72 : decode cX12_shape 72 = .ok (.aload_n 0, 1) := by decide +kernel
theorem dX12_shape_73 : decode cX12_shape 73 = .ok (.getfield 38, 3) := by decide +kernel
theorem dX12_shape_76 : decode cX12_shape 76 = .ok (.iload_n 3, 1) := by decide +kernel
theorem dX12_shape_77 : decode cX12_shape 77 = .ok (.iaload, 1) := by decide +kernel
theorem dX12_shape_78 : decode cX12_shape 78 = .ok (.iastore, 1) := by decide +kernel
theorem dX12_shape_79 : decode cX12_shape 79 = .ok (.iinc 3 1, 3) := by decide +kernel
theorem dX12_shape_82 : decode cX12_shape 82 = .ok (.goto (-26), 3) := by decide +kernel
theorem dX12_shape_85 : decode cX12_shape 85 = .ok (.aload_n 0, 1) := by decide +kernel
theorem dX12_shape_86 : decode cX12_shape 86 = .ok (.getfield 223, 3) := by decide +kernel
theorem dX12_shape_89 : decode cX12_shape 89 = .ok (.ireturn, 1) := by decide +kernel
theorem dX12_part_0 : decode cX12_part 0 = .ok (.aload_n 0, 1) := by decide +kernel
theorem dX12_part_1 : decode cX12_part 1 = .ok (.getfield 35, 3) := by decide +kernel
theorem dX12_part_4 : decode cX12_part 4 = .ok (.bipush 72, 2) := by decide +kernel
theorem dX12_part_6 : decode cX12_part 6 = .ok (.iload_n 1, 1) := by decide +kernel
theorem dX12_part_7 : decode cX12_part 7 = .ok (.imul, 1) := by decide +kernel
theorem dX12_part_8 : decode cX12_part 8 = .ok (.bipush 6, 2) := by decide +kernel
theorem dX12_part_10 : decode cX12_part 10 = .ok (.iload_n 2, 1) := by decide +kernel
theorem dX12_part_11 : decode cX12_part 11 = .ok (.imul, 1) := by decide +kernel
theorem dX12_part_12 : decode cX12_part 12 = .ok (.iadd, 1) := by decide +kernel
theorem dX12_part_13 : decode cX12_part 13 = .ok (.iload_n 3, 1) := by decide +kernel
theorem dX12_part_14 : decode cX12_part 14 = .ok (.iadd, 1) := by decide +kernel
theorem dX12_part_15 : decode cX12_part 15 = .ok (.iaload, 1) := by decide +kernel
theorem dX12_part_16 : decode cX12_part 16 = .ok (.ireturn, 1) := by decide +kernel
theorem dX12_item_0 : decode cX12_item 0 = .ok (.iload_n 3, 1) := by decide +kernel
theorem dX12_item_1 : decode cX12_item 1 = .ok (.iconst 0, 1) := by decide +kernel
theorem dX12_item_2 : decode cX12_item 2 = .ok (.iconst 5, 1) := by decide +kernel
theorem dX12_item_3 : decode cX12_item 3 = .ok (.invokestatic 175, 3) := by decide +kernel
theorem dX12_item_6 : decode cX12_item 6 = .ok (.ifCond .ne 5, 3) := by decide +kernel
theorem dX12_item_9 : decode cX12_item 9 = .ok (.iconst (-1), 1) := by decide +kernel
theorem dX12_item_10 : decode cX12_item 10 = .ok (.ireturn, 1) := by decide +kernel
theorem dX12_item_11 : decode cX12_item 11 = .ok (.aload_n 0, 1) := by decide +kernel
theorem dX12_item_12 : decode cX12_item 12 = .ok (.iload_n 1, 1) := by decide +kernel
theorem dX12_item_13 : decode cX12_item 13 = .ok (.invokevirtual 232, 3) := by decide +kernel
theorem dX12_item_16 : decode cX12_item 16 = .ok (.istore 4, 2) := by decide +kernel
theorem dX12_item_18 : decode cX12_item 18 = .ok (.iload 4, 2) := by decide +kernel
theorem dX12_item_20 : decode cX12_item 20 = .ok (.ifCond .ge 6, 3) := by decide +kernel
theorem dX12_item_23 : decode cX12_item 23 = .ok (.iload 4, 2) := by decide +kernel
theorem dX12_item_25 : decode cX12_item 25 = .ok (.ireturn, 1) := by decide +kernel
theorem dX12_item_26 : decode cX12_item 26 = .ok (.iload_n 2, 1) := by decide +kernel
theorem dX12_item_27 : decode cX12_item 27 = .ok (.iconst 0, 1) := by decide +kernel
theorem dX12_item_28 : decode cX12_item 28 = .ok (.aload_n 0, 1) := by decide +kernel
theorem dX12_item_29 : decode cX12_item 29 = .ok (.getfield 32, 3) := by decide +kernel
theorem dX12_item_32 : decode cX12_item 32 = .ok (.iload_n 1, 1) := by decide +kernel
theorem dX12_item_33 : decode cX12_item 33 = .ok (.iaload, 1) := by decide +kernel
theorem dX12_item_34 : decode cX12_item 34 = .ok (.iconst 1, 1) := by decide +kernel
theorem dX12_item_35 : decode cX12_item 35 = .ok (.isub, 1) := by decide +kernel
theorem dX12_item_36 : decode cX12_item 36 = .ok (.invokestatic 175, 3) := by decide +kernel
theorem dX12_item_39 : decode cX12_item 39 = .ok (.ifCond .eq 18, 3) := by decide +kernel
theorem dX12_item_42 : decode cX12_item 42 = .ok (.aload_n 0, 1) := by decide +kernel
theorem dX12_item_43 : decode cX12_item 43 = .ok (.aload_n 0, 1) := by decide +kernel
theorem dX12_item_44 : decode cX12_item 44 = .ok (.iload_n 1, 1) := by decide +kernel
theorem dX12_item_45 : decode cX12_item 45 = .ok (.iload_n 2, 1) := by decide +kernel
theorem dX12_item_46 : decode cX12_item 46 = .ok (.iload_n 3, 1) := by decide +kernel
theorem dX12_item_47 : decode cX12_item 47 = .ok (.invokevirtual 235, 3) := by decide +kernel
theorem dX12_item_50 : decode cX12_item 50 = .ok (.iconst 1, 1) := by decide +kernel
theorem dX12_item_51 : decode cX12_item 51 = .ok (.invokevirtual 194, 3) := by decide +kernel
theorem dX12_item_54 : decode cX12_item 54 = .ok (.goto 8, 3) := by decide +kernel
theorem dX12_item_57 : decode cX12_item 57 = .ok (.aload_n 0, 1) := by decide +kernel
theorem dX12_item_58 : decode cX12_item 58 = .ok (.iconst 2, 1) := by decide +kernel
theorem dX12_item_59 : decode cX12_item 59 = .ok (.invokevirtual 183, 3) := by decide +kernel
theorem dX12_item_62 : decode cX12_item 62 = .ok (.ireturn, 1) := by decide +kernel
theorem dX12_isVersion_0 : decode cX12_isVersion 0 = .ok (.iload_n 0, 1) := by decide +kernel
theorem dX12_isVersion_1 : decode cX12_isVersion 1 = .ok (.iconst 0, 1) := by decide +kernel
theorem dX12_isVersion_2 : decode cX12_isVersion 2 = .ok (.bipush 9, 2) := by decide +kernel
theorem dX12_isVersion_4 : decode cX12_isVersion 4 = .ok (.invokestatic 175, 3) := by decide +kernel
theorem dX12_isVersion_7 : decode cX12_isVersion 7 = .ok (.ireturn, 1) := by decide +kernel
theorem dX12_isOf_0 : decode cX12_isOf 0 = .ok (.aload_n 0, 1) := by decide +kernel
theorem dX12_isOf_1 : decode cX12_isOf 1 = .ok (.iload_n 1, 1) := by decide +kernel
theorem dX12_isOf_2 : decode cX12_isOf 2 = .ok (.iload_n 2, 1) := by decide +kernel
theorem dX12_isOf_3 : decode cX12_isOf 3 = .ok (.iconst 3, 1) := by decide +kernel
theorem dX12_isOf_4 : decode cX12_isOf 4 = .ok (.invokevirtual 235, 3) := by decide +kernel
theorem dX12_isOf_7 : decode cX12_isOf 7 = .ok (.iload_n 3, 1) := by decide +kernel
theorem dX12_isOf_8 : decode cX12_isOf 8 = .ok (.if_icmp .gt 18, 3) := by decide +kernel
theorem dX12_isOf_11 : decode cX12_isOf 11 = .ok (.iload_n 3, 1) := by decide +kernel
theorem dX12_isOf_12 : decode cX12_isOf 12 = .ok (.aload_n 0, 1) := by decide +kernel
theorem dX12_isOf_13 : decode cX12_isOf 13 = .ok (.iload_n 1, 1) := by decide +kernel
theorem dX12_isOf_14 : decode cX12_isOf 14 = .ok (.iload_n 2, 1) := by decide +kernel
theorem dX12_isOf_15 : decode cX12_isOf 15 = .ok (.iconst 4, 1) := by decide +kernel
theorem dX12_isOf_16 : decode cX12_isOf 16 = .ok (.invokevirtual 235, 3) := by decide +kernel
theorem dX12_isOf_19 : decode cX12_isOf 19 = .ok (.if_icmp .gt 7, 3) := by decide +kernel
theorem dX12_isOf_22 : decode cX12_isOf 22 = .ok (.iconst 1, 1) := by decide +kernel
theorem dX12_isOf_23 : decode cX12_isOf 23 = .ok (.goto 4, 3) := by decide +kernel
theorem dX12_isOf_26 : decode cX12_isOf 26 = .ok (.iconst 0, 1) := by decide +kernel
theorem dX12_isOf_27 : decode cX12_isOf 27 = .ok (.ireturn, 1) := by decide +kernel
theorem dX12_named_0 : decode cX12_named 0 = .ok (.bipush (-9), 2) := by decide +kernel
theorem dX12_named_2 : decode cX12_named 2 = .ok (.istore 4, 2) := by decide +kernel
theorem dX12_named_4 : decode cX12_named 4 = .ok (.iconst 0, 1) := by decide +kernel
theorem dX12_named_5 : decode cX12_named 5 = .ok (.istore 5, 2) := by decide +kernel
theorem dX12_named_7 : decode cX12_named 7 = .ok (.iload 5, 2) := by decide +kernel
theorem dX12_named_9 : decode cX12_named 9 = .ok (.aload_n 0, 1) := by decide +kernel
theorem dX12_named_10 : decode cX12_named 10 = .ok (.getfield 32, 3) := by decide +kernel
theorem dX12_named_13 : decode cX12_named 13 = .ok (.iload_n 1, 1) := by decide +kernel
theorem dX12_named_14 : decode cX12_named 14 = .ok (.iaload, 1) := by decide +kernel
theorem dX12_named_15 : decode cX12_named 15 = .ok (.if_icmp .ge 41, 3) := by decide +kernel
theorem dX12_named_18 : decode cX12_named 18 = .ok (.aload_n 0, 1) := by decide +kernel
theorem dX12_named_19 : decode cX12_named 19 = .ok (.iload_n 1, 1) := by decide +kernel
theorem dX12_named_20 : decode cX12_named 20 = .ok (.iload 5, 2) := by decide +kernel
theorem dX12_named_22 : decode cX12_named 22 = .ok (.iload_n 2, 1) := by decide +kernel
theorem dX12_named_23 : decode cX12_named 23 = .ok (.invokevirtual 239, 3) := by decide +kernel
theorem dX12_named_26 : decode cX12_named 26 = .ok (.ifCond .eq 20, 3) := by decide +kernel
theorem dX12_named_29 : decode cX12_named 29 = .ok (.aload_n 0, 1) := by decide +kernel
theorem dX12_named_30 : decode cX12_named 30 = .ok (.iload_n 1, 1) := by decide +kernel
theorem dX12_named_31 : decode cX12_named 31 = .ok (.iload 5, 2) := by decide +kernel
theorem dX12_named_33 : decode cX12_named 33 = .ok (.iconst 0, 1) := by decide +kernel
theorem dX12_named_34 : decode cX12_named 34 = .ok (.invokevirtual 235, 3) := by decide +kernel
theorem dX12_named_37 : decode cX12_named 37 = .ok (.iload_n 3, 1) := by decide +kernel
theorem dX12_named_38 : decode cX12_named 38 = .ok (.if_icmp .ne 8, 3) := by decide +kernel
theorem dX12_named_41 : decode cX12_named 41 = .ok (.iload 5, 2) := by decide +kernel
theorem dX12_named_43 : decode cX12_named 43 = .ok (.goto 5, 3) := by decide +kernel
theorem dX12_named_46 : decode cX12_named 46 = .ok (.iload 4, 2) := by decide +kernel
theorem dX12_named_48 : decode cX12_named 48 = .ok (.istore 4, 2) := by decide +kernel
theorem dX12_named_50 : decode cX12_named 50 = .ok (.iinc 5 1, 3) := by decide +kernel
theorem dX12_named_53 : decode cX12_named 53 = .ok (.goto (-46), 3) := by decide +kernel
theorem dX12_named_56 : decode cX12_named 56 = .ok (.iload 4, 2) := by decide +kernel
theorem dX12_named_58 : decode cX12_named 58 = .ok (.ireturn, 1) := by decide +kernel
theorem dX12_fields_0 : decode cX12_fields 0 = .ok (.iload_n 2, 1) := by decide +kernel
theorem dX12_fields_1 : decode cX12_fields 1 = .ok (.invokestatic 242, 3) := by decide +kernel
theorem dX12_fields_4 : decode cX12_fields 4 = .ok (.ifCond .ne 5, 3) := by decide +kernel
theorem dX12_fields_7 : decode cX12_fields 7 = .ok (.iconst (-1), 1) := by decide +kernel
theorem dX12_fields_8 : decode cX12_fields 8 = .ok (.ireturn, 1) := by decide +kernel
theorem dX12_fields_9 : decode cX12_fields 9 = .ok (.aload_n 0, 1) := by decide +kernel
theorem dX12_fields_10 : decode cX12_fields 10 = .ok (.iload_n 1, 1) := by decide +kernel
theorem dX12_fields_11 : decode cX12_fields 11 = .ok (.invokevirtual 232, 3) := by decide +kernel
theorem dX12_fields_14 : decode cX12_fields 14 = .ok (.istore_n 3, 1) := by decide +kernel
theorem dX12_fields_15 : decode cX12_fields 15 = .ok (.iload_n 3, 1) := by decide +kernel
theorem dX12_fields_16 : decode cX12_fields 16 = .ok (.ifCond .ge 5, 3) := by decide +kernel
theorem dX12_fields_19 : decode cX12_fields 19 = .ok (.iload_n 3, 1) := by decide +kernel
theorem dX12_fields_20 : decode cX12_fields 20 = .ok (.ireturn, 1) := by decide +kernel
theorem dX12_fields_21 : decode cX12_fields 21 = .ok (.iconst 0, 1) := by decide +kernel
theorem dX12_fields_22 : decode cX12_fields 22 = .ok (.istore 4, 2) := by decide +kernel
theorem dX12_fields_24 : decode cX12_fields 24 = .ok (.iconst 0, 1) := by decide +kernel
theorem dX12_fields_25 : decode cX12_fields 25 = .ok (.istore 5, 2) := by decide +kernel
theorem dX12_fields_27 : decode cX12_fields 27 = .ok (.iconst 0, 1) := by decide +kernel
theorem dX12_fields_28 : decode cX12_fields 28 = .ok (.istore 6, 2) := by decide +kernel
theorem dX12_fields_30 : decode cX12_fields 30 = .ok (.iload 6, 2) := by decide +kernel
theorem dX12_fields_32 : decode cX12_fields 32 = .ok (.aload_n 0, 1) := by decide +kernel
theorem dX12_fields_33 : decode cX12_fields 33 = .ok (.getfield 32, 3) := by decide +kernel
theorem dX12_fields_36 : decode cX12_fields 36 = .ok (.iload_n 1, 1) := by decide +kernel
theorem dX12_fields_37 : decode cX12_fields 37 = .ok (.iaload, 1) := by decide +kernel
theorem dX12_fields_38 : decode cX12_fields 38 = .ok (.if_icmp .ge 62, 3) := by decide +kernel
theorem dX12_fields_41 : decode cX12_fields 41 = .ok (.iload 4, 2) := by decide +kernel
theorem dX12_fields_43 : decode cX12_fields 43 = .ok (.aload_n 0, 1) := by decide +kernel
theorem dX12_fields_44 : decode cX12_fields 44 = .ok (.iload_n 1, 1) := by decide +kernel
theorem dX12_fields_45 : decode cX12_fields 45 = .ok (.iload 6, 2) := by decide +kernel
theorem dX12_fields_47 : decode cX12_fields 47 = .ok (.iload_n 2, 1) := by decide +kernel
theorem dX12_fields_48 : decode cX12_fields 48 = .ok (.invokevirtual 239, 3) := by decide +kernel
theorem dX12_fields_51 : decode cX12_fields 51 = .ok (.ifCond .eq 7, 3) := by decide +kernel
theorem dX12_fields_54 : decode cX12_fields 54 = .ok (.iconst 1, 1) := by decide +kernel
theorem dX12_fields_55 : decode cX12_fields 55 = .ok (.goto 4, 3) := by decide +kernel
theorem dX12_fields_58 : decode cX12_fields 58 = .ok (.iconst 0, 1) := by decide +kernel
theorem dX12_fields_59 : decode cX12_fields 59 = .ok (.iadd, 1) := by decide +kernel
theorem dX12_fields_60 : decode cX12_fields 60 = .ok (.istore 4, 2) := by decide +kernel
theorem dX12_fields_62 : decode cX12_fields 62 = .ok (.iload 5, 2) := by decide +kernel
theorem dX12_fields_64 : decode cX12_fields 64 = .ok (.aload_n 0, 1) := by decide +kernel
theorem dX12_fields_65 : decode cX12_fields 65 = .ok (.iload_n 1, 1) := by decide +kernel
theorem dX12_fields_66 : decode cX12_fields 66 = .ok (.iload 6, 2) := by decide +kernel
theorem dX12_fields_68 : decode cX12_fields 68 = .ok (.iload_n 2, 1) := by decide +kernel
theorem dX12_fields_69 : decode cX12_fields 69 = .ok (.invokevirtual 239, 3) := by decide +kernel
theorem dX12_fields_72 : decode cX12_fields 72 = .ok (.ifCond .eq 18, 3) := by decide +kernel
theorem dX12_fields_75 : decode cX12_fields 75 = .ok (.aload_n 0, 1) := by decide +kernel
theorem dX12_fields_76 : decode cX12_fields 76 = .ok (.iload_n 1, 1) := by decide +kernel
theorem dX12_fields_77 : decode cX12_fields 77 = .ok (.iload 6, 2) := by decide +kernel
theorem dX12_fields_79 : decode cX12_fields 79 = .ok (.iconst 5, 1) := by decide +kernel
theorem dX12_fields_80 : decode cX12_fields 80 = .ok (.invokevirtual 235, 3) := by decide +kernel
theorem dX12_fields_83 : decode cX12_fields 83 = .ok (.ifCond .ge 7, 3) := by decide +kernel
theorem dX12_fields_86 : decode cX12_fields 86 = .ok (.iconst 1, 1) := by decide +kernel
theorem dX12_fields_87 : decode cX12_fields 87 = .ok (.goto 4, 3) := by decide +kernel
theorem dX12_fields_90 : decode cX12_fields 90 = .ok (.iconst 0, 1) := by decide +kernel
theorem dX12_fields_91 : decode cX12_fields 91 = .ok (.iadd, 1) := by decide +kernel
theorem dX12_fields_92 : decode cX12_fields 92 = .ok (.istore 5, 2) := by decide +kernel
theorem dX12_fields_94 : decode cX12_fields 94 = .ok (.iinc 6 1, 3) := by decide +kernel
theorem dX12_fields_97 : decode cX12_fields 97 = .ok (.goto (-67), 3) := by decide +kernel
theorem dX12_fields_100 : decode cX12_fields 100 = .ok (.aload_n 0, 1) := by decide +kernel
theorem dX12_fields_101 : decode cX12_fields 101 = .ok (.iload 5, 2) := by decide +kernel
theorem dX12_fields_103 : decode cX12_fields 103 = .ok (.iload 4, 2) := by decide +kernel
theorem dX12_fields_105 : decode cX12_fields 105 = .ok (.invokevirtual 194, 3) := by decide +kernel
theorem dX12_fields_108 : decode cX12_fields 108 = .ok (.ireturn, 1) := by decide +kernel
theorem dX12_out_0 : decode cX12_out 0 = .ok (.aload_n 0, 1) := by decide +kernel
theorem dX12_out_1 : decode cX12_out 1 = .ok (.getfield 41, 3) := by decide +kernel
theorem dX12_out_4 : decode cX12_out 4 = .ok (.aload_n 0, 1) := by decide +kernel
theorem dX12_out_5 : decode cX12_out 5 = .ok (.getfield 245, 3) := by decide +kernel
theorem dX12_out_8 : decode cX12_out 8 = .ok (.iload_n 1, 1) := by decide +kernel
theorem dX12_out_9 : decode cX12_out 9 = .ok (.i2b, 1) := by decide +kernel
theorem dX12_out_10 : decode cX12_out 10 = .ok (.iastore, 1) := by decide +kernel
theorem dX12_out_11 : decode cX12_out 11 = .ok (.aload_n 0, 1) := by decide +kernel
theorem dX12_out_12 : decode cX12_out 12 = .ok (.dup, 1) := by decide +kernel
theorem dX12_out_13 : decode cX12_out 13 = .ok (.getfield 245, 3) := by decide +kernel
theorem dX12_out_16 : decode cX12_out 16 = .ok (.iconst 1, 1) := by decide +kernel
theorem dX12_out_17 : decode cX12_out 17 = .ok (.iadd, 1) := by decide +kernel
theorem dX12_out_18 : decode cX12_out 18 = .ok (.putfield 245, 3) := by decide +kernel
theorem dX12_out_21 : decode cX12_out 21 = .ok (.return_, 1) := by decide +kernel
theorem dX12_write_0 : decode cX12_write 0 = .ok (.iload_n 1, 1) := by decide +kernel
theorem dX12_write_1 : decode cX12_write 1 = .ok (.invokestatic 204, 3) := by decide +kernel
theorem dX12_write_4 : decode cX12_write 4 = .ok (.ifCond .eq 25, 3) := by decide +kernel
theorem dX12_write_7 : decode cX12_write 7 = .ok (.iload_n 2, 1) := by decide +kernel
theorem dX12_write_8 : decode cX12_write 8 = .ok (.invokestatic 242, 3) := by decide +kernel
theorem dX12_write_11 : decode cX12_write 11 = .ok (.ifCond .eq 18, 3) := by decide +kernel
theorem dX12_write_14 : decode cX12_write 14 = .ok (.iload_n 3, 1) := by decide +kernel
theorem dX12_write_15 : decode cX12_write 15 = .ok (.invokestatic 179, 3) := by decide +kernel
theorem dX12_write_18 : decode cX12_write 18 = .ok (.ifCond .eq 11, 3) := by decide +kernel
theorem dX12_write_21 : decode cX12_write 21 = .ok (.iload 4, 2) := by decide +kernel
theorem dX12_write_23 : decode cX12_write 23 = .ok (.invokestatic 179, 3) := by decide +kernel
theorem dX12_write_26 : decode cX12_write 26 = .ok (.ifCond .ne 5, 3) := by decide +kernel
theorem dX12_write_29 : decode cX12_write 29 = .ok (.iconst (-1), 1) := by decide +kernel
theorem dX12_write_30 : decode cX12_write 30 = .ok (.ireturn, 1) := by decide +kernel
theorem dX12_write_31 : decode cX12_write 31 = .ok (.aload_n 0, 1) := by decide +kernel
theorem dX12_write_32 : decode cX12_write 32 = .ok (.getfield 32, 3) := by decide +kernel
theorem dX12_write_35 : decode cX12_write 35 = .ok (.iload_n 1, 1) := by decide +kernel
theorem dX12_write_36 : decode cX12_write 36 = .ok (.iaload, 1) := by decide +kernel
theorem dX12_write_37 : decode cX12_write 37 = .ok (.ifCond .lt 12, 3) := by decide +kernel
theorem dX12_write_40 : decode cX12_write 40 = .ok (.aload_n 0, 1) := by decide +kernel
theorem dX12_write_41 : decode cX12_write 41 = .ok (.getfield 17, 3) := by decide +kernel
theorem dX12_write_44 : decode cX12_write 44 = .ok (.iload_n 3, 1) := by decide +kernel
theorem dX12_write_45 : decode cX12_write 45 = .ok (.iaload, 1) := by decide +kernel
theorem dX12_write_46 : decode cX12_write 46 = .ok (.ifCond .ge 9, 3) := by decide +kernel
theorem dX12_write_49 : decode cX12_write 49 = .ok (.aload_n 0, 1) := by decide +kernel
theorem dX12_write_50 : decode cX12_write 50 = .ok (.iconst 1, 1) := by decide +kernel
theorem dX12_write_51 : decode cX12_write 51 = .ok (.invokevirtual 183, 3) := by decide +kernel
theorem dX12_write_54 : decode cX12_write 54 = .ok (.ireturn, 1) := by decide +kernel
theorem dX12_write_55 : decode cX12_write 55 = .ok (.aload_n 0, 1) := by decide +kernel
theorem dX12_write_56 : decode cX12_write 56 = .ok (.iconst 0, 1) := by decide +kernel
theorem dX12_write_57 : decode cX12_write 57 = .ok (.putfield 245, 3) := by decide +kernel
theorem dX12_write_60 : decode cX12_write 60 = .ok (.iconst 0, 1) := by decide +kernel
theorem dX12_write_61 : decode cX12_write 61 = .ok (.istore 5, 2) := by decide +kernel
theorem dX12_write_63 : decode cX12_write 63 = .ok (.iconst 0, 1) := by decide +kernel
theorem dX12_write_64 : decode cX12_write 64 = .ok (.istore 6, 2) := by decide +kernel
theorem dX12_write_66 : decode cX12_write 66 = .ok (.iload 6, 2) := by decide +kernel
theorem dX12_write_68 : decode cX12_write 68 = .ok (.aload_n 0, 1) := by decide +kernel
theorem dX12_write_69 : decode cX12_write 69 = .ok (.getfield 32, 3) := by decide +kernel
theorem dX12_write_72 : decode cX12_write 72 = .ok (.iload_n 1, 1) := by decide +kernel
theorem dX12_write_73 : decode cX12_write 73 = .ok (.iaload, 1) := by decide +kernel
theorem dX12_write_74 : decode cX12_write 74 = .ok (.if_icmp .ge 250, 3) := by decide +kernel
theorem dX12_write_77 : decode cX12_write 77 = .ok (.aload_n 0, 1) := by decide +kernel
theorem dX12_write_78 : decode cX12_write 78 = .ok (.iload_n 1, 1) := by decide +kernel
theorem dX12_write_79 : decode cX12_write 79 = .ok (.iload 6, 2) := by decide +kernel
theorem dX12_write_81 : decode cX12_write 81 = .ok (.iload_n 2, 1) := by decide +kernel
theorem dX12_write_82 : decode cX12_write 82 = .ok (.invokevirtual 239, 3) := by decide +kernel
theorem dX12_write_85 : decode cX12_write 85 = .ok (.ifCond .ne 6, 3) := by decide +kernel
theorem dX12_write_88 : decode cX12_write 88 = .ok (.goto 230, 3) := by decide +kernel
theorem dX12_write_91 : decode cX12_write 91 = .ok (.aload_n 0, 1) := by decide +kernel
theorem dX12_write_92 : decode cX12_write 92 = .ok (.iload_n 1, 1) := by decide +kernel
theorem dX12_write_93 : decode cX12_write 93 = .ok (.iload 6, 2) := by decide +kernel
theorem dX12_write_95 : decode cX12_write 95 = .ok (.iconst 1, 1) := by decide +kernel
theorem dX12_write_96 : decode cX12_write 96 = .ok (.invokevirtual 235, 3) := by decide +kernel
theorem dX12_write_99 : decode cX12_write 99 = .ok (.istore 7, 2) := by decide +kernel
theorem dX12_write_101 : decode cX12_write 101 = .ok (.iload 5, 2) := by decide +kernel
theorem dX12_write_103 : decode cX12_write 103 = .ok (.aload_n 0, 1) := by decide +kernel
theorem dX12_write_104 : decode cX12_write 104 = .ok (.getfield 17, 3) := by decide +kernel
theorem dX12_write_107 : decode cX12_write 107 = .ok (.iload_n 3, 1) := by decide +kernel
theorem dX12_write_108 : decode cX12_write 108 = .ok (.iaload, 1) := by decide +kernel
theorem dX12_write_109 : decode cX12_write 109 = .ok (.if_icmp .ne 9, 3) := by decide +kernel
theorem dX12_write_112 : decode cX12_write 112 = .ok (.aload_n 0, 1) := by decide +kernel
theorem dX12_write_113 : decode cX12_write 113 = .ok (.iconst 5, 1) := by decide +kernel
theorem dX12_write_114 : decode cX12_write 114 = .ok (.invokevirtual 183, 3) := by decide +kernel
theorem dX12_write_117 : decode cX12_write 117 = .ok (.ireturn, 1) := by decide +kernel
theorem dX12_write_118 : decode cX12_write 118 = .ok (.aload_n 0, 1) := by decide +kernel
theorem dX12_write_119 : decode cX12_write 119 = .ok (.getfield 20, 3) := by decide +kernel
theorem dX12_write_122 : decode cX12_write 122 = .ok (.bipush 60, 2) := by decide +kernel
theorem dX12_write_124 : decode cX12_write 124 = .ok (.iload_n 3, 1) := by decide +kernel
theorem dX12_write_125 : decode cX12_write 125 = .ok (.imul, 1) := by decide +kernel
theorem dX12_write_126 : decode cX12_write 126 = .ok (.iload 5, 2) := by decide +kernel
theorem dX12_write_128 : decode cX12_write 128 = .ok (.iadd, 1) := by decide +kernel
theorem dX12_write_129 : decode cX12_write 129 = .ok (.iaload, 1) := by decide +kernel
theorem dX12_write_130 : decode cX12_write 130 = .ok (.istore 8, 2) := by decide +kernel
theorem dX12_write_132 : decode cX12_write 132 = .ok (.iinc 5 1, 3) := by decide +kernel
theorem dX12_write_135 : decode cX12_write 135 = .ok (.iload 8, 2) := by decide +kernel
theorem dX12_write_137 : decode cX12_write 137 = .ok (.iconst 0, 1) := by decide +kernel
theorem dX12_write_138 : decode cX12_write 138 = .ok (.iload 7, 2) := by decide +kernel
theorem dX12_write_140 : decode cX12_write 140 = .ok (.ifCond .ne 9, 3) := by decide +kernel
theorem dX12_write_143 : decode cX12_write 143 = .ok (.sipush 255, 3) := by decide +kernel
theorem dX12_write_146 : decode cX12_write 146 = .ok (.goto 35, 3) := by decide +kernel
theorem dX12_write_149 : decode cX12_write 149 = .ok (.iload 7, 2) := by decide +kernel
theorem dX12_write_151 : decode cX12_write 151 = .ok (.iconst 1, 1) := by decide +kernel
theorem dX12_write_152 : decode cX12_write 152 = .ok (.if_icmp .ne 8, 3) := by decide +kernel
theorem dX12_write_155 : decode cX12_write 155 = .ok (.ldc 248, 2) := by decide +kernel
theorem dX12_write_157 : decode cX12_write 157 = .ok (.goto 24, 3) := by decide +kernel
theorem dX12_write_160 : decode cX12_write 160 = .ok (.iload 7, 2) := by decide +kernel
theorem dX12_write_162 : decode cX12_write 162 = .ok (.iconst 2, 1) := by decide +kernel
theorem dX12_write_163 : decode cX12_write 163 = .ok (.if_icmp .ne 8, 3) := by decide +kernel
theorem dX12_write_166 : decode cX12_write 166 = .ok (.bipush 9, 2) := by decide +kernel
theorem dX12_write_168 : decode cX12_write 168 = .ok (.goto 13, 3) := by decide +kernel
theorem dX12_write_171 : decode cX12_write 171 = .ok (.aload_n 0, 1) := by decide +kernel
theorem dX12_write_172 : decode cX12_write 172 = .ok (.iload_n 1, 1) := by decide +kernel
theorem dX12_write_173 : decode cX12_write 173 = .ok (.iload 6, 2) := by decide +kernel
theorem dX12_write_175 : decode cX12_write 175 = .ok (.iconst 2, 1) := by decide +kernel
theorem dX12_write_176 : decode cX12_write 176 = .ok (.invokevirtual 235, 3) := by decide +kernel
theorem dX12_write_179 : decode cX12_write 179 = .ok (.iconst 1, 1) := by decide +kernel
theorem dX12_write_180 : decode cX12_write 180 = .ok (.isub, 1) := by decide +kernel
theorem dX12_write_181 : decode cX12_write 181 = .ok (.invokestatic 175, 3) := by decide +kernel
theorem dX12_write_184 : decode cX12_write 184 = .ok (.ifCond .ne 9, 3) := by decide +kernel
theorem dX12_write_187 : decode cX12_write 187 = .ok (.aload_n 0, 1) := by decide +kernel
theorem dX12_write_188 : decode cX12_write 188 = .ok (.iconst 3, 1) := by decide +kernel
theorem dX12_write_189 : decode cX12_write 189 = .ok (.invokevirtual 183, 3) := by decide +kernel
theorem dX12_write_192 : decode cX12_write 192 = .ok (.ireturn, 1) := by decide +kernel
theorem dX12_write_193 : decode cX12_write 193 = .ok (.aload_n 0, 1) := by decide +kernel
theorem dX12_write_194 : decode cX12_write 194 = .ok (.bipush 16, 2) := by decide +kernel
theorem dX12_write_196 : decode cX12_write 196 = .ok (.iload 7, 2) := by decide +kernel
theorem dX12_write_198 : decode cX12_write 198 = .ok (.imul, 1) := by decide +kernel
theorem dX12_write_199 : decode cX12_write 199 = .ok (.aload_n 0, 1) := by decide +kernel
theorem dX12_write_200 : decode cX12_write 200 = .ok (.iload_n 1, 1) := by decide +kernel
theorem dX12_write_201 : decode cX12_write 201 = .ok (.iload 6, 2) := by decide +kernel
theorem dX12_write_203 : decode cX12_write 203 = .ok (.iconst 0, 1) := by decide +kernel
theorem dX12_write_204 : decode cX12_write 204 = .ok (.invokevirtual 235, 3) := by decide +kernel
theorem dX12_write_207 : decode cX12_write 207 = .ok (.iadd, 1) := by decide +kernel
theorem dX12_write_208 : decode cX12_write 208 = .ok (.invokevirtual 249, 3) := by decide +kernel
theorem dX12_write_211 : decode cX12_write 211 = .ok (.iload 7, 2) := by decide +kernel
theorem dX12_write_213 : decode cX12_write 213 = .ok (.iconst 1, 1) := by decide +kernel
theorem dX12_write_214 : decode cX12_write 214 = .ok (.if_icmp .ne 12, 3) := by decide +kernel
theorem dX12_write_217 : decode cX12_write 217 = .ok (.aload_n 0, 1) := by decide +kernel
theorem dX12_write_218 : decode cX12_write 218 = .ok (.iload 8, 2) := by decide +kernel
theorem dX12_write_220 : decode cX12_write 220 = .ok (.bipush 8, 2) := by decide +kernel
theorem dX12_write_222 : decode cX12_write 222 = .ok (.ishr, 1) := by decide +kernel
theorem dX12_write_223 : decode cX12_write 223 = .ok (.invokevirtual 249, 3) := by decide +kernel
theorem dX12_write_226 : decode cX12_write 226 = .ok (.aload_n 0, 1) := by decide +kernel
theorem dX12_write_227 : decode cX12_write 227 = .ok (.iload 8, 2) := by decide +kernel
theorem dX12_write_229 : decode cX12_write 229 = .ok (.invokevirtual 249, 3) := by decide +kernel
theorem dX12_write_232 : decode cX12_write 232 = .ok (.iconst 0, 1) := by decide +kernel
theorem dX12_write_233 : decode cX12_write 233 = .ok (.istore 9, 2) := by decide +kernel
theorem dX12_write_235 : decode cX12_write 235 = .ok (.iload 9, 2) := by decide +kernel
theorem dX12_write_237 : decode cX12_write 237 = .ok (.iload 8, 2) := by decide +kernel
theorem dX12_write_239 : decode cX12_write 239 = .ok (.if_icmp .ge 79, 3) := by decide +kernel
theorem dX12_write_242 : decode cX12_write 242 = .ok (.iload 7, 2) := by decide +kernel
theorem dX12_write_244 : decode cX12_write 244 = .ok (.iconst 2, 1) := by decide +kernel
theorem dX12_write_245 : decode cX12_write 245 = .ok (.if_icmp .ne 73, 3) := by decide +kernel
theorem dX12_write_248 : decode cX12_write 248 = .ok (.iload 5, 2) := by decide +kernel
theorem dX12_write_250 : decode cX12_write 250 = .ok (.aload_n 0, 1) := by decide +kernel
theorem dX12_write_251 : decode cX12_write 251 = .ok (.getfield 17, 3) := by decide +kernel
theorem dX12_write_254 : decode cX12_write 254 = .ok (.iload_n 3, 1) := by decide +kernel
theorem dX12_write_255 : decode cX12_write 255 = .ok (.iaload, 1) := by decide +kernel
theorem dX12_write_256 : decode cX12_write 256 = .ok (.if_icmp .ne 9, 3) := by decide +kernel
theorem dX12_write_259 : decode cX12_write 259 = .ok (.aload_n 0, 1) := by decide +kernel
theorem dX12_write_260 : decode cX12_write 260 = .ok (.iconst 5, 1) := by decide +kernel
theorem dX12_write_261 : decode cX12_write 261 = .ok (.invokevirtual 183, 3) := by decide +kernel
theorem dX12_write_264 : decode cX12_write 264 = .ok (.ireturn, 1) := by decide +kernel
theorem dX12_write_265 : decode cX12_write 265 = .ok (.aload_n 0, 1) := by decide +kernel
theorem dX12_write_266 : decode cX12_write 266 = .ok (.getfield 20, 3) := by decide +kernel
theorem dX12_write_269 : decode cX12_write 269 = .ok (.bipush 60, 2) := by decide +kernel
theorem dX12_write_271 : decode cX12_write 271 = .ok (.iload_n 3, 1) := by decide +kernel
theorem dX12_write_272 : decode cX12_write 272 = .ok (.imul, 1) := by decide +kernel
theorem dX12_write_273 : decode cX12_write 273 = .ok (.iload 5, 2) := by decide +kernel
theorem dX12_write_275 : decode cX12_write 275 = .ok (.iadd, 1) := by decide +kernel
theorem dX12_write_276 : decode cX12_write 276 = .ok (.iaload, 1) := by decide +kernel
theorem dX12_write_277 : decode cX12_write 277 = .ok (.iconst 0, 1) := by decide +kernel
theorem dX12_write_278 : decode cX12_write 278 = .ok (.sipush 255, 3) := by decide +kernel
theorem dX12_write_281 : decode cX12_write 281 = .ok (.invokestatic 175, 3) := by decide +kernel
theorem dX12_write_284 : decode cX12_write 284 = .ok (.ifCond .ne 9, 3) := by decide +kernel
theorem dX12_write_287 : decode cX12_write 287 = .ok (.aload_n 0, 1) := by decide +kernel
theorem dX12_write_288 : decode cX12_write 288 = .ok (.iconst 3, 1) := by decide +kernel
theorem dX12_write_289 : decode cX12_write 289 = .ok (.invokevirtual 183, 3) := by decide +kernel
theorem dX12_write_292 : decode cX12_write 292 = .ok (.ireturn, 1) := by decide +kernel
theorem dX12_write_293 : decode cX12_write 293 = .ok (.aload_n 0, 1) := by decide +kernel
theorem dX12_write_294 : decode cX12_write 294 = .ok (.aload_n 0, 1) := by decide +kernel
theorem dX12_write_295 : decode cX12_write 295 = .ok (.getfield 20, 3) := by decide +kernel
theorem dX12_write_298 : decode cX12_write 298 = .ok (.bipush 60, 2) := by decide +kernel
theorem dX12_write_300 : decode cX12_write 300 = .ok (.iload_n 3, 1) := by decide +kernel
theorem dX12_write_301 : decode cX12_write 301 = .ok (.imul, 1) := by decide +kernel
theorem dX12_write_302 : decode cX12_write 302 = .ok (.iload 5, 2) := by decide +kernel
theorem dX12_write_304 : decode cX12_write 304 = .ok (.iadd, 1) := by decide +kernel
theorem dX12_write_305 : decode cX12_write 305 = .ok (.iaload, 1) := by decide +kernel
theorem dX12_write_306 : decode cX12_write 306 = .ok (.invokevirtual 249, 3) := by decide +kernel
theorem dX12_write_309 : decode cX12_write 309 = .ok (.iinc 5 1, 3) := by decide +kernel
theorem dX12_write_312 : decode cX12_write 312 = .ok (.iinc 9 1, 3) := by decide +kernel
theorem dX12_write_315 : decode cX12_write 315 = .ok (.goto (-80), 3) := by decide +kernel
theorem dX12_write_318 : decode cX12_write 318 = .ok (.iinc 6 1, 3) := by decide +kernel
theorem dX12_write_321 : decode cX12_write 321 = .ok (.goto (-255), 3) := by decide +kernel
theorem dX12_write_324 : decode cX12_write 324 = .ok (.iload 5, 2) := by decide +kernel
theorem dX12_write_326 : decode cX12_write 326 = .ok (.aload_n 0, 1) := by decide +kernel
theorem dX12_write_327 : decode cX12_write 327 = .ok (.getfield 17, 3) := by decide +kernel
theorem dX12_write_330 : decode cX12_write 330 = .ok (.iload_n 3, 1) := by decide +kernel
theorem dX12_write_331 : decode cX12_write 331 = .ok (.iaload, 1) := by decide +kernel
theorem dX12_write_332 : decode cX12_write 332 = .ok (.if_icmp .ge 9, 3) := by decide +kernel
theorem dX12_write_335 : decode cX12_write 335 = .ok (.aload_n 0, 1) := by decide +kernel
theorem dX12_write_336 : decode cX12_write 336 = .ok (.iconst 5, 1) := by decide +kernel
theorem dX12_write_337 : decode cX12_write 337 = .ok (.invokevirtual 183, 3) := by decide +kernel
theorem dX12_write_340 : decode cX12_write 340 = .ok (.ireturn, 1) := by decide +kernel
theorem dX12_write_341 : decode cX12_write 341 = .ok (.aload_n 0, 1) := by decide +kernel
theorem dX12_write_342 : decode cX12_write 342 = .ok (.getfield 245, 3) := by decide +kernel
theorem dX12_write_345 : decode cX12_write 345 = .ok (.bipush 60, 2) := by decide +kernel
theorem dX12_write_347 : decode cX12_write 347 = .ok (.if_icmp .le 9, 3) := by decide +kernel
theorem dX12_write_350 : decode cX12_write 350 = .ok (.aload_n 0, 1) := by decide +kernel
theorem dX12_write_351 : decode cX12_write 351 = .ok (.iconst 2, 1) := by decide +kernel
theorem dX12_write_352 : decode cX12_write 352 = .ok (.invokevirtual 183, 3) := by decide +kernel
theorem dX12_write_355 : decode cX12_write 355 = .ok (.ireturn, 1) := by decide +kernel
theorem dX12_write_356 : decode cX12_write 356 = .ok (.aload_n 0, 1) := by decide +kernel
theorem dX12_write_357 : decode cX12_write 357 = .ok (.iload 4, 2) := by decide +kernel
theorem dX12_write_359 : decode cX12_write 359 = .ok (.aload_n 0, 1) := by decide +kernel
theorem dX12_write_360 : decode cX12_write 360 = .ok (.getfield 245, 3) := by decide +kernel
theorem dX12_write_363 : decode cX12_write 363 = .ok (.invokevirtual 197, 3) := by decide +kernel
theorem dX12_write_366 : decode cX12_write 366 = .ok (.iconst 0, 1) := by decide +kernel
theorem dX12_write_367 : decode cX12_write 367 = .ok (.istore 6, 2) := by decide +kernel
theorem dX12_write_369 : decode cX12_write 369 = .ok (.iload 6, 2) := by decide +kernel
theorem dX12_write_371 : decode cX12_write 371 = .ok (.aload_n 0, 1) := by decide +kernel
theorem dX12_write_372 : decode cX12_write 372 = .ok (.getfield 245, 3) := by decide +kernel
theorem dX12_write_375 : decode cX12_write 375 = .ok (.if_icmp .ge 29, 3) := by decide +kernel
theorem dX12_write_378 : decode cX12_write 378 = .ok (.aload_n 0, 1) := by decide +kernel
theorem dX12_write_379 : decode cX12_write 379 = .ok (.getfield 29, 3) := by decide +kernel
theorem dX12_write_382 : decode cX12_write 382 = .ok (.bipush 60, 2) := by decide +kernel
theorem dX12_write_384 : decode cX12_write 384 = .ok (.iload 4, 2) := by decide +kernel
theorem dX12_write_386 : decode cX12_write 386 = .ok (.imul, 1) := by decide +kernel
theorem dX12_write_387 : decode cX12_write 387 = .ok (.iload 6, 2) := by decide +kernel
theorem dX12_write_389 : decode cX12_write 389 = .ok (.iadd, 1) := by decide +kernel
theorem dX12_write_390 : decode cX12_write 390 = .ok (.aload_n 0, 1) := by decide +kernel
theorem dX12_write_391 : decode cX12_write 391 = .ok (.getfield 41, 3) := by decide +kernel
theorem dX12_write_394 : decode cX12_write 394 = .ok (.iload 6, 2) := by decide +kernel
theorem dX12_write_396 : decode cX12_write 396 = .ok (.iaload, 1) := by decide +kernel
theorem dX12_write_397 : decode cX12_write 397 = .ok (.iastore, 1) := by decide +kernel
theorem dX12_write_398 : decode cX12_write 398 = .ok (.iinc 6 1, 3) := by decide +kernel
theorem dX12_write_401 : decode cX12_write 401 = .ok (.goto (-32), 3) := by decide +kernel
theorem dX12_write_404 : decode cX12_write 404 = .ok (.aload_n 0, 1) := by decide +kernel
theorem dX12_write_405 : decode cX12_write 405 = .ok (.getfield 245, 3) := by decide +kernel
theorem dX12_write_408 : decode cX12_write 408 = .ok (.ireturn, 1) := by decide +kernel
theorem dX12_byteAt_0 : decode cX12_byteAt 0 = .ok (.aload_n 0, 1) := by decide +kernel
theorem dX12_byteAt_1 : decode cX12_byteAt 1 = .ok (.getfield 29, 3) := by decide +kernel
theorem dX12_byteAt_4 : decode cX12_byteAt 4 = .ok (.bipush 60, 2) := by decide +kernel
theorem dX12_byteAt_6 : decode cX12_byteAt 6 = .ok (.iload_n 1, 1) := by decide +kernel
theorem dX12_byteAt_7 : decode cX12_byteAt 7 = .ok (.imul, 1) := by decide +kernel
theorem dX12_byteAt_8 : decode cX12_byteAt 8 = .ok (.iload_n 2, 1) := by decide +kernel
theorem dX12_byteAt_9 : decode cX12_byteAt 9 = .ok (.iadd, 1) := by decide +kernel
theorem dX12_byteAt_10 : decode cX12_byteAt 10 = .ok (.iaload, 1) := by decide +kernel
theorem dX12_byteAt_11 : decode cX12_byteAt 11 = .ok (.sipush 255, 3) := by decide +kernel
theorem dX12_byteAt_14 : decode cX12_byteAt 14 = .ok (.iand, 1) := by decide +kernel
theorem dX12_byteAt_15 : decode cX12_byteAt 15 = .ok (.ireturn, 1) := by decide +kernel
theorem dX12_goThrough_0 : decode cX12_goThrough 0 = .ok (.aload_n 0, 1) := by decide +kernel
theorem dX12_goThrough_1 : decode cX12_goThrough 1 = .ok (.iconst 0, 1) := by decide +kernel
theorem dX12_goThrough_2 : decode cX12_goThrough 2 = .ok (.putfield 252, 3) := by decide +kernel
theorem dX12_goThrough_5 : decode cX12_goThrough 5 = .ok (.aload_n 0, 1) := by decide +kernel
theorem dX12_goThrough_6 : decode cX12_goThrough 6 = .ok (.iconst 0, 1) := by decide +kernel
theorem dX12_goThrough_7 : decode cX12_goThrough 7 = .ok (.putfield 255, 3) := by decide +kernel
theorem dX12_goThrough_10 : decode cX12_goThrough 10 = .ok (.aload_n 0, 1) := by decide +kernel
theorem dX12_goThrough_11 : decode cX12_goThrough 11 = .ok (.iconst 0, 1) := by decide +kernel
theorem dX12_goThrough_12 : decode cX12_goThrough 12 = .ok (.putfield 258, 3) := by decide +kernel
theorem dX12_goThrough_15 : decode cX12_goThrough 15 = .ok (.iconst 0, 1) := by decide +kernel
theorem dX12_goThrough_16 : decode cX12_goThrough 16 = .ok (.istore 4, 2) := by decide +kernel
theorem dX12_goThrough_18 : decode cX12_goThrough 18 = .ok (.aload_n 0, 1) := by decide +kernel
theorem dX12_goThrough_19 : decode cX12_goThrough 19 = .ok (.getfield 26, 3) := by decide +kernel
theorem dX12_goThrough_22 : decode cX12_goThrough 22 = .ok (.iload_n 3, 1) := by decide +kernel
theorem dX12_goThrough_23 : decode cX12_goThrough 23 = .ok (.iaload, 1) := by decide +kernel
theorem dX12_goThrough_24 : decode cX12_goThrough 24 = .ok (.istore 5, 2) := by decide +kernel
theorem dX12_goThrough_26 : decode cX12_goThrough 26 = .ok (.iload 4, 2) := by decide +kernel
theorem dX12_goThrough_28 : decode cX12_goThrough 28 = .ok (.iload 5, 2) := by decide +kernel
theorem dX12_goThrough_30 : decode cX12_goThrough 30 = .ok (.if_icmp .ge 313, 3) := by decide +kernel
theorem dX12_goThrough_33 : decode cX12_goThrough 33 = .ok (.aload_n 0, 1) := by decide +kernel
theorem dX12_goThrough_34 : decode cX12_goThrough 34 = .ok (.iload_n 3, 1) := by decide +kernel
theorem dX12_goThrough_35 : decode cX12_goThrough 35 = .ok (.iload 4, 2) := by decide +kernel
theorem dX12_goThrough_37 : decode cX12_goThrough 37 = .ok (.invokevirtual 261, 3) := by decide +kernel
theorem dX12_goThrough_40 : decode cX12_goThrough 40 = .ok (.istore 6, 2) := by decide +kernel
theorem dX12_goThrough_42 : decode cX12_goThrough 42 = .ok (.iload 6, 2) := by decide +kernel
theorem dX12_goThrough_44 : decode cX12_goThrough 44 = .ok (.bipush 16, 2) := by decide +kernel
theorem dX12_goThrough_46 : decode cX12_goThrough 46 = .ok (.irem, 1) := by decide +kernel
theorem dX12_goThrough_47 : decode cX12_goThrough 47 = .ok (.istore 7, 2) := by decide +kernel
theorem dX12_goThrough_49 : decode cX12_goThrough 49 = .ok (.iload 6, 2) := by decide +kernel
theorem dX12_goThrough_51 : decode cX12_goThrough 51 = .ok (.bipush 16, 2) := by decide +kernel
theorem dX12_goThrough_53 : decode cX12_goThrough 53 = .ok (.idiv, 1) := by decide +kernel
theorem dX12_goThrough_54 : decode cX12_goThrough 54 = .ok (.istore 8, 2) := by decide +kernel
theorem dX12_goThrough_56 : decode cX12_goThrough 56 = .ok (.iload 8, 2) := by decide +kernel
theorem dX12_goThrough_58 : decode cX12_goThrough 58 = .ok (.iconst 3, 1) := by decide +kernel
theorem dX12_goThrough_59 : decode cX12_goThrough 59 = .ok (.if_icmp .gt 20, 3) := by decide +kernel
theorem dX12_goThrough_62 : decode cX12_goThrough 62 = .ok (.aload_n 0, 1) := by decide +kernel
theorem dX12_goThrough_63 : decode cX12_goThrough 63 = .ok (.getfield 252, 3) := by decide +kernel
theorem dX12_goThrough_66 : decode cX12_goThrough 66 = .ok (.aload_n 0, 1) := by decide +kernel
theorem dX12_goThrough_67 : decode cX12_goThrough 67 = .ok (.getfield 255, 3) := by decide +kernel
theorem dX12_goThrough_70 : decode cX12_goThrough 70 = .ok (.ior, 1) := by decide +kernel
theorem dX12_goThrough_71 : decode cX12_goThrough 71 = .ok (.iload 7, 2) := by decide +kernel
theorem dX12_goThrough_73 : decode cX12_goThrough 73 = .ok (.invokestatic 216, 3) := by decide +kernel
theorem dX12_goThrough_76 : decode cX12_goThrough 76 = .ok (.ifCond .eq 6, 3) := by decide +kernel
theorem dX12_goThrough_79 : decode cX12_goThrough 79 = .ok (.iload 4, 2) := by decide +kernel
theorem dX12_goThrough_81 : decode cX12_goThrough 81 = .ok (.ireturn, 1) := by decide +kernel
theorem dX12_goThrough_82 : decode cX12_goThrough 82 = .ok (.iload 4, 2) := by decide +kernel
theorem dX12_goThrough_84 : decode cX12_goThrough 84 = .ok (.iconst 1, 1) := by decide +kernel
theorem dX12_goThrough_85 : decode cX12_goThrough 85 = .ok (.iadd, 1) := by decide +kernel
theorem dX12_goThrough_86 : decode cX12_goThrough 86 = .ok (.istore 9, 2) := by decide +kernel
theorem dX12_goThrough_88 : decode cX12_goThrough 88 = .ok (.iload 9, 2) := by decide +kernel
theorem dX12_goThrough_90 : decode cX12_goThrough 90 = .ok (.iload 5, 2) := by decide +kernel
theorem dX12_goThrough_92 : decode cX12_goThrough 92 = .ok (.if_icmp .lt 6, 3) := by decide +kernel
theorem dX12_goThrough_95 : decode cX12_goThrough 95 = .ok (.iload 5, 2) := by decide +kernel
theorem dX12_goThrough_97 : decode cX12_goThrough 97 = .ok (.ireturn, 1) := by decide +kernel
theorem dX12_goThrough_98 : decode cX12_goThrough 98 = .ok (.iload 8, 2) := by decide +kernel
theorem dX12_goThrough_100 : decode cX12_goThrough 100 = .ok (.iconst 2, 1) := by decide +kernel
theorem dX12_goThrough_101 : decode cX12_goThrough 101 = .ok (.if_icmp .ne 18, 3) := by decide +kernel
theorem dX12_goThrough_104 : decode cX12_goThrough 104 = .ok (.aload_n 0, 1) := by decide +kernel
theorem dX12_goThrough_105 : decode cX12_goThrough 105 = .ok (.iload_n 3, 1) := by decide +kernel
theorem dX12_goThrough_106 : decode cX12_goThrough 106 = .ok (.iload 9, 2) := by decide +kernel
theorem dX12_goThrough_108 : decode cX12_goThrough 108 = .ok (.invokevirtual 261, 3) := by decide +kernel
theorem dX12_goThrough_111 : decode cX12_goThrough 111 = .ok (.bipush 9, 2) := by decide +kernel
theorem dX12_goThrough_113 : decode cX12_goThrough 113 = .ok (.if_icmp .le 6, 3) := by decide +kernel
theorem dX12_goThrough_116 : decode cX12_goThrough 116 = .ok (.iload 9, 2) := by decide +kernel
theorem dX12_goThrough_118 : decode cX12_goThrough 118 = .ok (.ireturn, 1) := by decide +kernel
theorem dX12_goThrough_119 : decode cX12_goThrough 119 = .ok (.aload_n 0, 1) := by decide +kernel
theorem dX12_goThrough_120 : decode cX12_goThrough 120 = .ok (.iload_n 1, 1) := by decide +kernel
theorem dX12_goThrough_121 : decode cX12_goThrough 121 = .ok (.iload_n 2, 1) := by decide +kernel
theorem dX12_goThrough_122 : decode cX12_goThrough 122 = .ok (.iload 7, 2) := by decide +kernel
theorem dX12_goThrough_124 : decode cX12_goThrough 124 = .ok (.invokevirtual 264, 3) := by decide +kernel
theorem dX12_goThrough_127 : decode cX12_goThrough 127 = .ok (.istore 10, 2) := by decide +kernel
theorem dX12_goThrough_129 : decode cX12_goThrough 129 = .ok (.iload 10, 2) := by decide +kernel
theorem dX12_goThrough_131 : decode cX12_goThrough 131 = .ok (.ifCond .lt 20, 3) := by decide +kernel
theorem dX12_goThrough_134 : decode cX12_goThrough 134 = .ok (.aload_n 0, 1) := by decide +kernel
theorem dX12_goThrough_135 : decode cX12_goThrough 135 = .ok (.iload_n 1, 1) := by decide +kernel
theorem dX12_goThrough_136 : decode cX12_goThrough 136 = .ok (.iload 10, 2) := by decide +kernel
theorem dX12_goThrough_138 : decode cX12_goThrough 138 = .ok (.iconst 1, 1) := by decide +kernel
theorem dX12_goThrough_139 : decode cX12_goThrough 139 = .ok (.invokevirtual 235, 3) := by decide +kernel
theorem dX12_goThrough_142 : decode cX12_goThrough 142 = .ok (.iload 8, 2) := by decide +kernel
theorem dX12_goThrough_144 : decode cX12_goThrough 144 = .ok (.if_icmp .ne 7, 3) := by decide +kernel
theorem dX12_goThrough_147 : decode cX12_goThrough 147 = .ok (.iconst 1, 1) := by decide +kernel
theorem dX12_goThrough_148 : decode cX12_goThrough 148 = .ok (.goto 4, 3) := by decide +kernel
theorem dX12_goThrough_151 : decode cX12_goThrough 151 = .ok (.iconst 0, 1) := by decide +kernel
theorem dX12_goThrough_152 : decode cX12_goThrough 152 = .ok (.istore 11, 2) := by decide +kernel
theorem dX12_goThrough_154 : decode cX12_goThrough 154 = .ok (.iload 8, 2) := by decide +kernel
theorem dX12_goThrough_156 : decode cX12_goThrough 156 = .ok (.iconst 3, 1) := by decide +kernel
theorem dX12_goThrough_157 : decode cX12_goThrough 157 = .ok (.if_icmp .ne 29, 3) := by decide +kernel
theorem dX12_goThrough_160 : decode cX12_goThrough 160 = .ok (.iload 11, 2) := by decide +kernel
theorem dX12_goThrough_162 : decode cX12_goThrough 162 = .ok (.ifCond .eq 24, 3) := by decide +kernel
theorem dX12_goThrough_165 : decode cX12_goThrough 165 = .ok (.aload_n 0, 1) := by decide +kernel
theorem dX12_goThrough_166 : decode cX12_goThrough 166 = .ok (.iload_n 3, 1) := by decide +kernel
theorem dX12_goThrough_167 : decode cX12_goThrough 167 = .ok (.iload 9, 2) := by decide +kernel
theorem dX12_goThrough_169 : decode cX12_goThrough 169 = .ok (.invokevirtual 261, 3) := by decide +kernel
theorem dX12_goThrough_172 : decode cX12_goThrough 172 = .ok (.aload_n 0, 1) := by decide +kernel
theorem dX12_goThrough_173 : decode cX12_goThrough 173 = .ok (.iload_n 1, 1) := by decide +kernel
theorem dX12_goThrough_174 : decode cX12_goThrough 174 = .ok (.iload 10, 2) := by decide +kernel
theorem dX12_goThrough_176 : decode cX12_goThrough 176 = .ok (.iconst 2, 1) := by decide +kernel
theorem dX12_goThrough_177 : decode cX12_goThrough 177 = .ok (.invokevirtual 235, 3) := by decide +kernel
theorem dX12_goThrough_180 : decode cX12_goThrough 180 = .ok (.if_icmp .lt 6, 3) := by decide +kernel
theorem dX12_goThrough_183 : decode cX12_goThrough 183 = .ok (.iload 9, 2) := by decide +kernel
theorem dX12_goThrough_185 : decode cX12_goThrough 185 = .ok (.ireturn, 1) := by decide +kernel
theorem dX12_goThrough_186 : decode cX12_goThrough 186 = .ok (.iload 9, 2) := by decide +kernel
theorem dX12_goThrough_188 : decode cX12_goThrough 188 = .ok (.iload 8, 2) := by decide +kernel
theorem dX12_goThrough_190 : decode cX12_goThrough 190 = .ok (.iconst 1, 1) := by decide +kernel
theorem dX12_goThrough_191 : decode cX12_goThrough 191 = .ok (.if_icmp .ne 7, 3) := by decide +kernel
theorem dX12_goThrough_194 : decode cX12_goThrough 194 = .ok (.iconst 2, 1) := by decide +kernel
theorem dX12_goThrough_195 : decode cX12_goThrough 195 = .ok (.goto 22, 3) := by decide +kernel
theorem dX12_goThrough_198 : decode cX12_goThrough 198 = .ok (.iload 8, 2) := by decide +kernel
theorem dX12_goThrough_200 : decode cX12_goThrough 200 = .ok (.iconst 2, 1) := by decide +kernel
theorem dX12_goThrough_201 : decode cX12_goThrough 201 = .ok (.if_icmp .ne 15, 3) := by decide +kernel
theorem dX12_goThrough_204 : decode cX12_goThrough 204 = .ok (.iconst 1, 1) := by decide +kernel
theorem dX12_goThrough_205 : decode cX12_goThrough 205 = .ok (.aload_n 0, 1) := by decide +kernel
theorem dX12_goThrough_206 : decode cX12_goThrough 206 = .ok (.iload_n 3, 1) := by decide +kernel
theorem dX12_goThrough_207 : decode cX12_goThrough 207 = .ok (.iload 9, 2) := by decide +kernel
theorem dX12_goThrough_209 : decode cX12_goThrough 209 = .ok (.invokevirtual 261, 3) := by decide +kernel
theorem dX12_goThrough_212 : decode cX12_goThrough 212 = .ok (.iadd, 1) := by decide +kernel
theorem dX12_goThrough_213 : decode cX12_goThrough 213 = .ok (.goto 4, 3) := by decide +kernel
theorem dX12_goThrough_216 : decode cX12_goThrough 216 = .ok (.iconst 1, 1) := by decide +kernel
theorem dX12_goThrough_217 : decode cX12_goThrough 217 = .ok (.iadd, 1) := by decide +kernel
theorem dX12_goThrough_218 : decode cX12_goThrough 218 = .ok (.istore 12, 2) := by decide +kernel
theorem dX12_goThrough_220 : decode cX12_goThrough 220 = .ok (.iload 12, 2) := by decide +kernel
theorem dX12_goThrough_222 : decode cX12_goThrough 222 = .ok (.iload 5, 2) := by decide +kernel
theorem dX12_goThrough_224 : decode cX12_goThrough 224 = .ok (.if_icmp .le 6, 3) := by decide +kernel
theorem dX12_goThrough_227 : decode cX12_goThrough 227 = .ok (.iload 5, 2) := by decide +kernel
theorem dX12_goThrough_229 : decode cX12_goThrough 229 = .ok (.ireturn, 1) := by decide +kernel
theorem dX12_goThrough_230 : decode cX12_goThrough 230 = .ok (.aload_n 0, 1) := by decide +kernel
theorem dX12_goThrough_231 : decode cX12_goThrough 231 = .ok (.getfield 44, 3) := by decide +kernel
theorem dX12_goThrough_234 : decode cX12_goThrough 234 = .ok (.iload 7, 2) := by decide +kernel
theorem dX12_goThrough_236 : decode cX12_goThrough 236 = .ok (.iload 9, 2) := by decide +kernel
theorem dX12_goThrough_238 : decode cX12_goThrough 238 = .ok (.iastore, 1) := by decide +kernel
theorem dX12_goThrough_239 : decode cX12_goThrough 239 = .ok (.aload_n 0, 1) := by decide +kernel
theorem dX12_goThrough_240 : decode cX12_goThrough 240 = .ok (.dup, 1) := by decide +kernel
theorem dX12_goThrough_241 : decode cX12_goThrough 241 = .ok (.getfield 252, 3) := by decide +kernel
theorem dX12_goThrough_244 : decode cX12_goThrough 244 = .ok (.iload 11, 2) := by decide +kernel
theorem dX12_goThrough_246 : decode cX12_goThrough 246 = .ok (.ifCond .eq 10, 3) := by decide +kernel
theorem dX12_goThrough_249 : decode cX12_goThrough 249 = .ok (.iconst 1, 1) := by decide +kernel
theorem dX12_goThrough_250 : decode cX12_goThrough 250 = .ok (.iload 7, 2) := by decide +kernel
theorem dX12_goThrough_252 : decode cX12_goThrough 252 = .ok (.ishl, 1) := by decide +kernel
theorem dX12_goThrough_253 : decode cX12_goThrough 253 = .ok (.goto 4, 3) := by decide +kernel
theorem dX12_goThrough_256 : decode cX12_goThrough 256 = .ok (.iconst 0, 1) := by decide +kernel
theorem dX12_goThrough_257 : decode cX12_goThrough 257 = .ok (.ior, 1) := by decide +kernel
theorem dX12_goThrough_258 : decode cX12_goThrough 258 = .ok (.putfield 252, 3) := by decide +kernel
theorem dX12_goThrough_261 : decode cX12_goThrough 261 = .ok (.aload_n 0, 1) := by decide +kernel
theorem dX12_goThrough_262 : decode cX12_goThrough 262 = .ok (.dup, 1) := by decide +kernel
theorem dX12_goThrough_263 : decode cX12_goThrough 263 = .ok (.getfield 255, 3) := by decide +kernel
theorem dX12_goThrough_266 : decode cX12_goThrough 266 = .ok (.iload 11, 2) := by decide +kernel
theorem dX12_goThrough_268 : decode cX12_goThrough 268 = .ok (.ifCond .eq 7, 3) := by decide +kernel
theorem dX12_goThrough_271 : decode cX12_goThrough 271 = .ok (.iconst 0, 1) := by decide +kernel
theorem dX12_goThrough_272 : decode cX12_goThrough 272 = .ok (.goto 7, 3) := by decide +kernel
theorem dX12_goThrough_275 : decode cX12_goThrough 275 = .ok (.iconst 1, 1) := by decide +kernel
theorem dX12_goThrough_276 : decode cX12_goThrough 276 = .ok (.iload 7, 2) := by decide +kernel
theorem dX12_goThrough_278 : decode cX12_goThrough 278 = .ok (.ishl, 1) := by decide +kernel
theorem dX12_goThrough_279 : decode cX12_goThrough 279 = .ok (.ior, 1) := by decide +kernel
theorem dX12_goThrough_280 : decode cX12_goThrough 280 = .ok (.putfield 255, 3) := by decide +kernel
theorem dX12_goThrough_283 : decode cX12_goThrough 283 = .ok (.iload 4, 2) := by decide +kernel
theorem dX12_goThrough_285 : decode cX12_goThrough 285 = .ok (.istore 13, 2) := by decide +kernel
theorem dX12_goThrough_287 : decode cX12_goThrough 287 = .ok (.iload 13, 2) := by decide +kernel
theorem dX12_goThrough_289 : decode cX12_goThrough 289 = .ok (.iload 12, 2) := by decide +kernel
theorem dX12_goThrough_291 : decode cX12_goThrough 291 = .ok (.if_icmp .ge 45, 3) := by decide +kernel
theorem dX12_goThrough_294 : decode cX12_goThrough 294 = .ok (.iload 11, 2) := by decide +kernel
theorem dX12_goThrough_296 : decode cX12_goThrough 296 = .ok (.ifCond .ne 40, 3) := by decide +kernel
theorem dX12_goThrough_299 : decode cX12_goThrough 299 = .ok (.aload_n 0, 1) := by decide +kernel
theorem dX12_goThrough_300 : decode cX12_goThrough 300 = .ok (.getfield 47, 3) := by decide +kernel
theorem dX12_goThrough_303 : decode cX12_goThrough 303 = .ok (.aload_n 0, 1) := by decide +kernel
theorem dX12_goThrough_304 : decode cX12_goThrough 304 = .ok (.getfield 258, 3) := by decide +kernel
theorem dX12_goThrough_307 : decode cX12_goThrough 307 = .ok (.aload_n 0, 1) := by decide +kernel
theorem dX12_goThrough_308 : decode cX12_goThrough 308 = .ok (.getfield 29, 3) := by decide +kernel
theorem dX12_goThrough_311 : decode cX12_goThrough 311 = .ok (.bipush 60, 2) := by decide +kernel
theorem dX12_goThrough_313 : decode cX12_goThrough 313 = .ok (.iload_n 3, 1) := by decide +kernel
theorem dX12_goThrough_314 : decode cX12_goThrough 314 = .ok (.imul, 1) := by decide +kernel
theorem dX12_goThrough_315 : decode cX12_goThrough 315 = .ok (.iload 13, 2) := by decide +kernel
theorem dX12_goThrough_317 : decode cX12_goThrough 317 = .ok (.iadd, 1) := by decide +kernel
theorem dX12_goThrough_318 : decode cX12_goThrough 318 = .ok (.iaload, 1) := by decide +kernel
theorem dX12_goThrough_319 : decode cX12_goThrough 319 = .ok (.iastore, 1) := by decide +kernel
theorem dX12_goThrough_320 : decode cX12_goThrough 320 = .ok (.aload_n 0, 1) := by decide +kernel
theorem dX12_goThrough_321 : decode cX12_goThrough 321 = .ok (.dup, 1) := by decide +kernel
theorem dX12_goThrough_322 : decode cX12_goThrough 322 = .ok (.getfield 258, 3) := by decide +kernel
theorem dX12_goThrough_325 : decode cX12_goThrough 325 = .ok (.iconst 1, 1) := by decide +kernel
theorem dX12_goThrough_326 : decode cX12_goThrough 326 = .ok (.iadd, 1) := by decide +kernel
theorem dX12_goThrough_327 : decode cX12_goThrough 327 = .ok (.putfield 258, 3) := by decide +kernel
theorem dX12_goThrough_330 : decode cX12_goThrough 330 = .ok (.iinc 13 1, 3) := by decide +kernel
theorem dX12_goThrough_333 : decode cX12_goThrough 333 = .ok (.goto (-46), 3) := by decide +kernel
theorem dX12_goThrough_336 : decode cX12_goThrough 336 = .ok (.iload 12, 2) := by decide +kernel
theorem dX12_goThrough_338 : decode cX12_goThrough 338 = .ok (.istore 4, 2) := by decide +kernel
theorem dX12_goThrough_340 : decode cX12_goThrough 340 = .ok (.goto (-314), 3) := by decide +kernel
theorem dX12_goThrough_343 : decode cX12_goThrough 343 = .ok (.iconst 0, 1) := by decide +kernel
theorem dX12_goThrough_344 : decode cX12_goThrough 344 = .ok (.istore 6, 2) := by decide +kernel
theorem dX12_goThrough_346 : decode cX12_goThrough 346 = .ok (.iload 6, 2) := by decide +kernel
theorem dX12_goThrough_348 : decode cX12_goThrough 348 = .ok (.aload_n 0, 1) := by decide +kernel
theorem dX12_goThrough_349 : decode cX12_goThrough 349 = .ok (.getfield 32, 3) := by decide +kernel
theorem dX12_goThrough_352 : decode cX12_goThrough 352 = .ok (.iload_n 1, 1) := by decide +kernel
theorem dX12_goThrough_353 : decode cX12_goThrough 353 = .ok (.iaload, 1) := by decide +kernel
theorem dX12_goThrough_354 : decode cX12_goThrough 354 = .ok (.if_icmp .ge 52, 3) := by decide +kernel
theorem dX12_goThrough_357 : decode cX12_goThrough 357 = .ok (.aload_n 0, 1) := by decide +kernel
theorem dX12_goThrough_358 : decode cX12_goThrough 358 = .ok (.iload_n 1, 1) := by decide +kernel
theorem dX12_goThrough_359 : decode cX12_goThrough 359 = .ok (.iload 6, 2) := by decide +kernel
theorem dX12_goThrough_361 : decode cX12_goThrough 361 = .ok (.iload_n 2, 1) := by decide +kernel
theorem dX12_goThrough_362 : decode cX12_goThrough 362 = .ok (.invokevirtual 239, 3) := by decide +kernel
theorem dX12_goThrough_365 : decode cX12_goThrough 365 = .ok (.ifCond .eq 35, 3) := by decide +kernel
theorem dX12_goThrough_368 : decode cX12_goThrough 368 = .ok (.aload_n 0, 1) := by decide +kernel
theorem dX12_goThrough_369 : decode cX12_goThrough 369 = .ok (.iload_n 1, 1) := by decide +kernel
theorem dX12_goThrough_370 : decode cX12_goThrough 370 = .ok (.iload 6, 2) := by decide +kernel
theorem dX12_goThrough_372 : decode cX12_goThrough 372 = .ok (.iconst 5, 1) := by decide +kernel
theorem dX12_goThrough_373 : decode cX12_goThrough 373 = .ok (.invokevirtual 235, 3) := by decide +kernel
theorem dX12_goThrough_376 : decode cX12_goThrough 376 = .ok (.ifCond .ge 24, 3) := by decide +kernel
theorem dX12_goThrough_379 : decode cX12_goThrough 379 = .ok (.aload_n 0, 1) := by decide +kernel
theorem dX12_goThrough_380 : decode cX12_goThrough 380 = .ok (.getfield 252, 3) := by decide +kernel
theorem dX12_goThrough_383 : decode cX12_goThrough 383 = .ok (.aload_n 0, 1) := by decide +kernel
theorem dX12_goThrough_384 : decode cX12_goThrough 384 = .ok (.iload_n 1, 1) := by decide +kernel
theorem dX12_goThrough_385 : decode cX12_goThrough 385 = .ok (.iload 6, 2) := by decide +kernel
theorem dX12_goThrough_387 : decode cX12_goThrough 387 = .ok (.iconst 0, 1) := by decide +kernel
theorem dX12_goThrough_388 : decode cX12_goThrough 388 = .ok (.invokevirtual 235, 3) := by decide +kernel
theorem dX12_goThrough_391 : decode cX12_goThrough 391 = .ok (.invokestatic 216, 3) := by decide +kernel
theorem dX12_goThrough_394 : decode cX12_goThrough 394 = .ok (.ifCond .ne 6, 3) := by decide +kernel
theorem dX12_goThrough_397 : decode cX12_goThrough 397 = .ok (.iload 5, 2) := by decide +kernel
theorem dX12_goThrough_399 : decode cX12_goThrough 399 = .ok (.ireturn, 1) := by decide +kernel
theorem dX12_goThrough_400 : decode cX12_goThrough 400 = .ok (.iinc 6 1, 3) := by decide +kernel
theorem dX12_goThrough_403 : decode cX12_goThrough 403 = .ok (.goto (-57), 3) := by decide +kernel
theorem dX12_goThrough_406 : decode cX12_goThrough 406 = .ok (.bipush (-9), 2) := by decide +kernel
theorem dX12_goThrough_408 : decode cX12_goThrough 408 = .ok (.ireturn, 1) := by decide +kernel
theorem dX12_read_0 : decode cX12_read 0 = .ok (.iload_n 1, 1) := by decide +kernel
theorem dX12_read_1 : decode cX12_read 1 = .ok (.invokestatic 204, 3) := by decide +kernel
theorem dX12_read_4 : decode cX12_read 4 = .ok (.ifCond .eq 25, 3) := by decide +kernel
theorem dX12_read_7 : decode cX12_read 7 = .ok (.iload_n 2, 1) := by decide +kernel
theorem dX12_read_8 : decode cX12_read 8 = .ok (.invokestatic 242, 3) := by decide +kernel
theorem dX12_read_11 : decode cX12_read 11 = .ok (.ifCond .eq 18, 3) := by decide +kernel
theorem dX12_read_14 : decode cX12_read 14 = .ok (.iload 4, 2) := by decide +kernel
theorem dX12_read_16 : decode cX12_read 16 = .ok (.invokestatic 179, 3) := by decide +kernel
theorem dX12_read_19 : decode cX12_read 19 = .ok (.ifCond .eq 10, 3) := by decide +kernel
theorem dX12_read_22 : decode cX12_read 22 = .ok (.iload_n 3, 1) := by decide +kernel
theorem dX12_read_23 : decode cX12_read 23 = .ok (.invokestatic 179, 3) := by decide +kernel
theorem dX12_read_26 : decode cX12_read 26 = .ok (.ifCond .ne 5, 3) := by decide +kernel
theorem dX12_read_29 : decode cX12_read 29 = .ok (.iconst (-1), 1) := by decide +kernel
theorem dX12_read_30 : decode cX12_read 30 = .ok (.ireturn, 1) := by decide +kernel
theorem dX12_read_31 : decode cX12_read 31 = .ok (.aload_n 0, 1) := by decide +kernel
theorem dX12_read_32 : decode cX12_read 32 = .ok (.getfield 32, 3) := by decide +kernel
theorem dX12_read_35 : decode cX12_read 35 = .ok (.iload_n 1, 1) := by decide +kernel
theorem dX12_read_36 : decode cX12_read 36 = .ok (.iaload, 1) := by decide +kernel
theorem dX12_read_37 : decode cX12_read 37 = .ok (.ifCond .lt 12, 3) := by decide +kernel
theorem dX12_read_40 : decode cX12_read 40 = .ok (.aload_n 0, 1) := by decide +kernel
theorem dX12_read_41 : decode cX12_read 41 = .ok (.getfield 26, 3) := by decide +kernel
theorem dX12_read_44 : decode cX12_read 44 = .ok (.iload_n 3, 1) := by decide +kernel
theorem dX12_read_45 : decode cX12_read 45 = .ok (.iaload, 1) := by decide +kernel
theorem dX12_read_46 : decode cX12_read 46 = .ok (.ifCond .ge 9, 3) := by decide +kernel
theorem dX12_read_49 : decode cX12_read 49 = .ok (.aload_n 0, 1) := by decide +kernel
theorem dX12_read_50 : decode cX12_read 50 = .ok (.iconst 1, 1) := by decide +kernel
theorem dX12_read_51 : decode cX12_read 51 = .ok (.invokevirtual 183, 3) := by decide +kernel
theorem dX12_read_54 : decode cX12_read 54 = .ok (.ireturn, 1) := by decide +kernel
theorem dX12_read_55 : decode cX12_read 55 = .ok (.aload_n 0, 1) := by decide +kernel
theorem dX12_read_56 : decode cX12_read 56 = .ok (.iload_n 1, 1) := by decide +kernel
theorem dX12_read_57 : decode cX12_read 57 = .ok (.iload_n 2, 1) := by decide +kernel
theorem dX12_read_58 : decode cX12_read 58 = .ok (.iload_n 3, 1) := by decide +kernel
theorem dX12_read_59 : decode cX12_read 59 = .ok (.invokevirtual 267, 3) := by decide +kernel
theorem dX12_read_62 : decode cX12_read 62 = .ok (.istore 5, 2) := by decide +kernel
theorem dX12_read_64 : decode cX12_read 64 = .ok (.iload 5, 2) := by decide +kernel
theorem dX12_read_66 : decode cX12_read 66 = .ok (.bipush (-9), 2) := by decide +kernel
theorem dX12_read_68 : decode cX12_read 68 = .ok (.if_icmp .eq 6, 3) := by decide +kernel
theorem dX12_read_71 : decode cX12_read 71 = .ok (.iload 5, 2) := by decide +kernel
theorem dX12_read_73 : decode cX12_read 73 = .ok (.ireturn, 1) := by decide +kernel
theorem dX12_read_74 : decode cX12_read 74 = .ok (.aload_n 0, 1) := by decide +kernel
theorem dX12_read_75 : decode cX12_read 75 = .ok (.iconst 0, 1) := by decide +kernel
theorem dX12_read_76 : decode cX12_read 76 = .ok (.putfield 245, 3) := by decide +kernel
theorem dX12_read_79 : decode cX12_read 79 = .ok (.iconst 0, 1) := by decide +kernel
theorem dX12_read_80 : decode cX12_read 80 = .ok (.istore 6, 2) := by decide +kernel
theorem dX12_read_82 : decode cX12_read 82 = .ok (.iconst 0, 1) := by decide +kernel
theorem dX12_read_83 : decode cX12_read 83 = .ok (.istore 7, 2) := by decide +kernel
theorem dX12_read_85 : decode cX12_read 85 = .ok (.iload 7, 2) := by decide +kernel
theorem dX12_read_87 : decode cX12_read 87 = .ok (.aload_n 0, 1) := by decide +kernel
theorem dX12_read_88 : decode cX12_read 88 = .ok (.getfield 32, 3) := by decide +kernel
theorem dX12_read_91 : decode cX12_read 91 = .ok (.iload_n 1, 1) := by decide +kernel
theorem dX12_read_92 : decode cX12_read 92 = .ok (.iaload, 1) := by decide +kernel
theorem dX12_read_93 : decode cX12_read 93 = .ok (.if_icmp .ge 215, 3) := by decide +kernel
theorem dX12_read_96 : decode cX12_read 96 = .ok (.aload_n 0, 1) := by decide +kernel
theorem dX12_read_97 : decode cX12_read 97 = .ok (.iload_n 1, 1) := by decide +kernel
theorem dX12_read_98 : decode cX12_read 98 = .ok (.iload 7, 2) := by decide +kernel
theorem dX12_read_100 : decode cX12_read 100 = .ok (.iload_n 2, 1) := by decide +kernel
theorem dX12_read_101 : decode cX12_read 101 = .ok (.invokevirtual 239, 3) := by decide +kernel
theorem dX12_read_104 : decode cX12_read 104 = .ok (.ifCond .ne 6, 3) := by decide +kernel
theorem dX12_read_107 : decode cX12_read 107 = .ok (.goto 195, 3) := by decide +kernel
theorem dX12_read_110 : decode cX12_read 110 = .ok (.aload_n 0, 1) := by decide +kernel
theorem dX12_read_111 : decode cX12_read 111 = .ok (.iload_n 1, 1) := by decide +kernel
theorem dX12_read_112 : decode cX12_read 112 = .ok (.iload 7, 2) := by decide +kernel
theorem dX12_read_114 : decode cX12_read 114 = .ok (.iconst 0, 1) := by decide +kernel
theorem dX12_read_115 : decode cX12_read 115 = .ok (.invokevirtual 235, 3) := by decide +kernel
theorem dX12_read_118 : decode cX12_read 118 = .ok (.istore 8, 2) := by decide +kernel
theorem dX12_read_120 : decode cX12_read 120 = .ok (.aload_n 0, 1) := by decide +kernel
theorem dX12_read_121 : decode cX12_read 121 = .ok (.iload_n 1, 1) := by decide +kernel
theorem dX12_read_122 : decode cX12_read 122 = .ok (.iload 7, 2) := by decide +kernel
theorem dX12_read_124 : decode cX12_read 124 = .ok (.iconst 1, 1) := by decide +kernel
theorem dX12_read_125 : decode cX12_read 125 = .ok (.invokevirtual 235, 3) := by decide +kernel
theorem dX12_read_128 : decode cX12_read 128 = .ok (.istore 9, 2) := by decide +kernel
theorem dX12_read_130 : decode cX12_read 130 = .ok (.aload_n 0, 1) := by decide +kernel
theorem dX12_read_131 : decode cX12_read 131 = .ok (.getfield 252, 3) := by decide +kernel
theorem dX12_read_134 : decode cX12_read 134 = .ok (.iload 8, 2) := by decide +kernel
theorem dX12_read_136 : decode cX12_read 136 = .ok (.invokestatic 216, 3) := by decide +kernel
theorem dX12_read_139 : decode cX12_read 139 = .ok (.ifCond .ne 42, 3) := by decide +kernel
theorem dX12_read_142 : decode cX12_read 142 = .ok (.iload 6, 2) := by decide +kernel
theorem dX12_read_144 : decode cX12_read 144 = .ok (.iconst 1, 1) := by decide +kernel
theorem dX12_read_145 : decode cX12_read 145 = .ok (.iload 8, 2) := by decide +kernel
theorem dX12_read_147 : decode cX12_read 147 = .ok (.ishl, 1) := by decide +kernel
theorem dX12_read_148 : decode cX12_read 148 = .ok (.ior, 1) := by decide +kernel
theorem dX12_read_149 : decode cX12_read 149 = .ok (.istore 6, 2) := by decide +kernel
theorem dX12_read_151 : decode cX12_read 151 = .ok (.aload_n 0, 1) := by decide +kernel
theorem dX12_read_152 : decode cX12_read 152 = .ok (.getfield 41, 3) := by decide +kernel
theorem dX12_read_155 : decode cX12_read 155 = .ok (.aload_n 0, 1) := by decide +kernel
theorem dX12_read_156 : decode cX12_read 156 = .ok (.getfield 245, 3) := by decide +kernel
theorem dX12_read_159 : decode cX12_read 159 = .ok (.aload_n 0, 1) := by decide +kernel
theorem dX12_read_160 : decode cX12_read 160 = .ok (.iload_n 1, 1) := by decide +kernel
theorem dX12_read_161 : decode cX12_read 161 = .ok (.iload 7, 2) := by decide +kernel
theorem dX12_read_163 : decode cX12_read 163 = .ok (.iconst 5, 1) := by decide +kernel
theorem dX12_read_164 : decode cX12_read 164 = .ok (.invokevirtual 235, 3) := by decide +kernel
theorem dX12_read_167 : decode cX12_read 167 = .ok (.iastore, 1) := by decide +kernel
theorem dX12_read_168 : decode cX12_read 168 = .ok (.aload_n 0, 1) := by decide +kernel
theorem dX12_read_169 : decode cX12_read 169 = .ok (.dup, 1) := by decide +kernel
theorem dX12_read_170 : decode cX12_read 170 = .ok (.getfield 245, 3) := by decide +kernel
theorem dX12_read_173 : decode cX12_read 173 = .ok (.iconst 1, 1) := by decide +kernel
theorem dX12_read_174 : decode cX12_read 174 = .ok (.iadd, 1) := by decide +kernel
theorem dX12_read_175 : decode cX12_read 175 = .ok (.putfield 245, 3) := by decide +kernel
theorem dX12_read_178 : decode cX12_read 178 = .ok (.goto 124, 3) := by decide +kernel
theorem dX12_read_181 : decode cX12_read 181 = .ok (.aload_n 0, 1) := by decide +kernel
theorem dX12_read_182 : decode cX12_read 182 = .ok (.getfield 44, 3) := by decide +kernel
theorem dX12_read_185 : decode cX12_read 185 = .ok (.iload 8, 2) := by decide +kernel
theorem dX12_read_187 : decode cX12_read 187 = .ok (.iaload, 1) := by decide +kernel
theorem dX12_read_188 : decode cX12_read 188 = .ok (.istore 10, 2) := by decide +kernel
theorem dX12_read_190 : decode cX12_read 190 = .ok (.aload_n 0, 1) := by decide +kernel
theorem dX12_read_191 : decode cX12_read 191 = .ok (.getfield 41, 3) := by decide +kernel
theorem dX12_read_194 : decode cX12_read 194 = .ok (.aload_n 0, 1) := by decide +kernel
theorem dX12_read_195 : decode cX12_read 195 = .ok (.getfield 245, 3) := by decide +kernel
theorem dX12_read_198 : decode cX12_read 198 = .ok (.iload 9, 2) := by decide +kernel
theorem dX12_read_200 : decode cX12_read 200 = .ok (.iconst 1, 1) := by decide +kernel
theorem dX12_read_201 : decode cX12_read 201 = .ok (.if_icmp .ne 27, 3) := by decide +kernel
theorem dX12_read_204 : decode cX12_read 204 = .ok (.sipush 256, 3) := by decide +kernel
theorem dX12_read_207 : decode cX12_read 207 = .ok (.aload_n 0, 1) := by decide +kernel
theorem dX12_read_208 : decode cX12_read 208 = .ok (.iload_n 3, 1) := by decide +kernel
theorem dX12_read_209 : decode cX12_read 209 = .ok (.iload 10, 2) := by decide +kernel
theorem dX12_read_211 : decode cX12_read 211 = .ok (.invokevirtual 261, 3) := by decide +kernel
theorem dX12_read_214 : decode cX12_read 214 = .ok (.imul, 1) := by decide +kernel
theorem dX12_read_215 : decode cX12_read 215 = .ok (.aload_n 0, 1) := by decide +kernel
theorem dX12_read_216 : decode cX12_read 216 = .ok (.iload_n 3, 1) := by decide +kernel
theorem dX12_read_217 : decode cX12_read 217 = .ok (.iload 10, 2) := by decide +kernel
theorem dX12_read_219 : decode cX12_read 219 = .ok (.iconst 1, 1) := by decide +kernel
theorem dX12_read_220 : decode cX12_read 220 = .ok (.iadd, 1) := by decide +kernel
theorem dX12_read_221 : decode cX12_read 221 = .ok (.invokevirtual 261, 3) := by decide +kernel
theorem dX12_read_224 : decode cX12_read 224 = .ok (.iadd, 1) := by decide +kernel
theorem dX12_read_225 : decode cX12_read 225 = .ok (.goto 10, 3) := by decide +kernel
theorem dX12_read_228 : decode cX12_read 228 = .ok (.aload_n 0, 1) := by decide +kernel
theorem dX12_read_229 : decode cX12_read 229 = .ok (.iload_n 3, 1) := by decide +kernel
theorem dX12_read_230 : decode cX12_read 230 = .ok (.iload 10, 2) := by decide +kernel
theorem dX12_read_232 : decode cX12_read 232 = .ok (.invokevirtual 261, 3) := by decide +kernel
theorem dX12_read_235 : decode cX12_read 235 = .ok (.iastore, 1) := by decide +kernel
theorem dX12_read_236 : decode cX12_read 236 = .ok (.aload_n 0, 1) := by decide +kernel
theorem dX12_read_237 : decode cX12_read 237 = .ok (.dup, 1) := by decide +kernel
theorem dX12_read_238 : decode cX12_read 238 = .ok (.getfield 245, 3) := by decide +kernel
theorem dX12_read_241 : decode cX12_read 241 = .ok (.iconst 1, 1) := by decide +kernel
theorem dX12_read_242 : decode cX12_read 242 = .ok (.iadd, 1) := by decide +kernel
theorem dX12_read_243 : decode cX12_read 243 = .ok (.putfield 245, 3) := by decide +kernel
theorem dX12_read_246 : decode cX12_read 246 = .ok (.iconst 1, 1) := by decide +kernel
theorem dX12_read_247 : decode cX12_read 247 = .ok (.istore 11, 2) := by decide +kernel
theorem dX12_read_249 : decode cX12_read 249 = .ok (.iload 9, 2) := by decide +kernel
theorem dX12_read_251 : decode cX12_read 251 = .ok (.iconst 2, 1) := by decide +kernel
theorem dX12_read_252 : decode cX12_read 252 = .ok (.if_icmp .ne 50, 3) := by decide +kernel
theorem dX12_read_255 : decode cX12_read 255 = .ok (.iload 11, 2) := by decide +kernel
theorem dX12_read_257 : decode cX12_read 257 = .ok (.aload_n 0, 1) := by decide +kernel
theorem dX12_read_258 : decode cX12_read 258 = .ok (.iload_n 3, 1) := by decide +kernel
theorem dX12_read_259 : decode cX12_read 259 = .ok (.iload 10, 2) := by decide +kernel
theorem dX12_read_261 : decode cX12_read 261 = .ok (.invokevirtual 261, 3) := by decide +kernel
theorem dX12_read_264 : decode cX12_read 264 = .ok (.if_icmp .gt 38, 3) := by decide +kernel
theorem dX12_read_267 : decode cX12_read 267 = .ok (.aload_n 0, 1) := by decide +kernel
theorem dX12_read_268 : decode cX12_read 268 = .ok (.getfield 41, 3) := by decide +kernel
theorem dX12_read_271 : decode cX12_read 271 = .ok (.aload_n 0, 1) := by decide +kernel
theorem dX12_read_272 : decode cX12_read 272 = .ok (.getfield 245, 3) := by decide +kernel
theorem dX12_read_275 : decode cX12_read 275 = .ok (.aload_n 0, 1) := by decide +kernel
theorem dX12_read_276 : decode cX12_read 276 = .ok (.iload_n 3, 1) := by decide +kernel
theorem dX12_read_277 : decode cX12_read 277 = .ok (.iload 10, 2) := by decide +kernel
theorem dX12_read_279 : decode cX12_read 279 = .ok (.iload 11, 2) := by decide +kernel
theorem dX12_read_281 : decode cX12_read 281 = .ok (.iadd, 1) := by decide +kernel
theorem dX12_read_282 : decode cX12_read 282 = .ok (.invokevirtual 261, 3) := by decide +kernel
theorem dX12_read_285 : decode cX12_read 285 = .ok (.iastore, 1) := by decide +kernel
theorem dX12_read_286 : decode cX12_read 286 = .ok (.aload_n 0, 1) := by decide +kernel
theorem dX12_read_287 : decode cX12_read 287 = .ok (.dup, 1) := by decide +kernel
theorem dX12_read_288 : decode cX12_read 288 = .ok (.getfield 245, 3) := by decide +kernel
theorem dX12_read_291 : decode cX12_read 291 = .ok (.iconst 1, 1) := by decide +kernel
theorem dX12_read_292 : decode cX12_read 292 = .ok (.iadd, 1) := by decide +kernel
theorem dX12_read_293 : decode cX12_read 293 = .ok (.putfield 245, 3) := by decide +kernel
theorem dX12_read_296 : decode cX12_read 296 = .ok (.iinc 11 1, 3) := by decide +kernel
theorem dX12_read_299 : decode cX12_read 299 = .ok (.goto (-50), 3) := by decide +kernel
theorem dX12_read_302 : decode cX12_read 302 = .ok (.iinc 7 1, 3) := by decide +kernel
theorem dX12_read_305 : decode cX12_read 305 = .ok (.goto (-220), 3) := by decide +kernel
theorem dX12_read_308 : decode cX12_read 308 = .ok (.aload_n 0, 1) := by decide +kernel
theorem dX12_read_309 : decode cX12_read 309 = .ok (.getfield 245, 3) := by decide +kernel
theorem dX12_read_312 : decode cX12_read 312 = .ok (.bipush 60, 2) := by decide +kernel
theorem dX12_read_314 : decode cX12_read 314 = .ok (.if_icmp .le 9, 3) := by decide +kernel
theorem dX12_read_317 : decode cX12_read 317 = .ok (.aload_n 0, 1) := by decide +kernel
theorem dX12_read_318 : decode cX12_read 318 = .ok (.iconst 2, 1) := by decide +kernel
theorem dX12_read_319 : decode cX12_read 319 = .ok (.invokevirtual 183, 3) := by decide +kernel
theorem dX12_read_322 : decode cX12_read 322 = .ok (.ireturn, 1) := by decide +kernel
theorem dX12_read_323 : decode cX12_read 323 = .ok (.aload_n 0, 1) := by decide +kernel
theorem dX12_read_324 : decode cX12_read 324 = .ok (.iload 4, 2) := by decide +kernel
theorem dX12_read_326 : decode cX12_read 326 = .ok (.aload_n 0, 1) := by decide +kernel
theorem dX12_read_327 : decode cX12_read 327 = .ok (.getfield 245, 3) := by decide +kernel
theorem dX12_read_330 : decode cX12_read 330 = .ok (.invokevirtual 270, 3) := by decide +kernel
theorem dX12_read_333 : decode cX12_read 333 = .ok (.pop, 1) := by decide +kernel
theorem dX12_read_334 : decode cX12_read 334 = .ok (.iconst 0, 1) := by decide +kernel
theorem dX12_read_335 : decode cX12_read 335 = .ok (.istore 7, 2) := by decide +kernel
theorem dX12_read_337 : decode cX12_read 337 = .ok (.iload 7, 2) := by decide +kernel
theorem dX12_read_339 : decode cX12_read 339 = .ok (.aload_n 0, 1) := by decide +kernel
theorem dX12_read_340 : decode cX12_read 340 = .ok (.getfield 245, 3) := by decide +kernel
theorem dX12_read_343 : decode cX12_read 343 = .ok (.if_icmp .ge 29, 3) := by decide +kernel
theorem dX12_read_346 : decode cX12_read 346 = .ok (.aload_n 0, 1) := by decide +kernel
theorem dX12_read_347 : decode cX12_read 347 = .ok (.getfield 20, 3) := by decide +kernel
theorem dX12_read_350 : decode cX12_read 350 = .ok (.bipush 60, 2) := by decide +kernel
theorem dX12_read_352 : decode cX12_read 352 = .ok (.iload 4, 2) := by decide +kernel
theorem dX12_read_354 : decode cX12_read 354 = .ok (.imul, 1) := by decide +kernel
theorem dX12_read_355 : decode cX12_read 355 = .ok (.iload 7, 2) := by decide +kernel
theorem dX12_read_357 : decode cX12_read 357 = .ok (.iadd, 1) := by decide +kernel
theorem dX12_read_358 : decode cX12_read 358 = .ok (.aload_n 0, 1) := by decide +kernel
theorem dX12_read_359 : decode cX12_read 359 = .ok (.getfield 41, 3) := by decide +kernel
theorem dX12_read_362 : decode cX12_read 362 = .ok (.iload 7, 2) := by decide +kernel
theorem dX12_read_364 : decode cX12_read 364 = .ok (.iaload, 1) := by decide +kernel
theorem dX12_read_365 : decode cX12_read 365 = .ok (.iastore, 1) := by decide +kernel
theorem dX12_read_366 : decode cX12_read 366 = .ok (.iinc 7 1, 3) := by decide +kernel
theorem dX12_read_369 : decode cX12_read 369 = .ok (.goto (-32), 3) := by decide +kernel
theorem dX12_read_372 : decode cX12_read 372 = .ok (.aload_n 0, 1) := by decide +kernel
theorem dX12_read_373 : decode cX12_read 373 = .ok (.getfield 50, 3) := by decide +kernel
theorem dX12_read_376 : decode cX12_read 376 = .ok (.iconst 0, 1) := by decide +kernel
theorem dX12_read_377 : decode cX12_read 377 = .ok (.aload_n 0, 1) := by decide +kernel
theorem dX12_read_378 : decode cX12_read 378 = .ok (.getfield 252, 3) := by decide +kernel
theorem dX12_read_381 : decode cX12_read 381 = .ok (.iastore, 1) := by decide +kernel
theorem dX12_read_382 : decode cX12_read 382 = .ok (.aload_n 0, 1) := by decide +kernel
theorem dX12_read_383 : decode cX12_read 383 = .ok (.getfield 50, 3) := by decide +kernel
theorem dX12_read_386 : decode cX12_read 386 = .ok (.iconst 1, 1) := by decide +kernel
theorem dX12_read_387 : decode cX12_read 387 = .ok (.aload_n 0, 1) := by decide +kernel
theorem dX12_read_388 : decode cX12_read 388 = .ok (.getfield 255, 3) := by decide +kernel
theorem dX12_read_391 : decode cX12_read 391 = .ok (.iastore, 1) := by decide +kernel
theorem dX12_read_392 : decode cX12_read 392 = .ok (.aload_n 0, 1) := by decide +kernel
theorem dX12_read_393 : decode cX12_read 393 = .ok (.getfield 50, 3) := by decide +kernel
theorem dX12_read_396 : decode cX12_read 396 = .ok (.iconst 2, 1) := by decide +kernel
theorem dX12_read_397 : decode cX12_read 397 = .ok (.iload 6, 2) := by decide +kernel
theorem dX12_read_399 : decode cX12_read 399 = .ok (.iastore, 1) := by decide +kernel
theorem dX12_read_400 : decode cX12_read 400 = .ok (.aload_n 0, 1) := by decide +kernel
theorem dX12_read_401 : decode cX12_read 401 = .ok (.aload_n 0, 1) := by decide +kernel
theorem dX12_read_402 : decode cX12_read 402 = .ok (.getfield 258, 3) := by decide +kernel
theorem dX12_read_405 : decode cX12_read 405 = .ok (.putfield 273, 3) := by decide +kernel
theorem dX12_read_408 : decode cX12_read 408 = .ok (.iconst 0, 1) := by decide +kernel
theorem dX12_read_409 : decode cX12_read 409 = .ok (.istore 7, 2) := by decide +kernel
theorem dX12_read_411 : decode cX12_read 411 = .ok (.iload 7, 2) := by decide +kernel
theorem dX12_read_413 : decode cX12_read 413 = .ok (.aload_n 0, 1) := by decide +kernel
theorem dX12_read_414 : decode cX12_read 414 = .ok (.getfield 258, 3) := by decide +kernel
theorem dX12_read_417 : decode cX12_read 417 = .ok (.if_icmp .ge 23, 3) := by decide +kernel
theorem dX12_read_420 : decode cX12_read 420 = .ok (.aload_n 0, 1) := by decide +kernel
theorem dX12_read_421 : decode cX12_read 421 = .ok (.getfield 53, 3) := by decide +kernel
theorem dX12_read_424 : decode cX12_read 424 = .ok (.iload 7, 2) := by decide +kernel
theorem dX12_read_426 : decode cX12_read 426 = .ok (.aload_n 0, 1) := by decide +kernel
theorem dX12_read_427 : decode cX12_read 427 = .ok (.getfield 47, 3) := by decide +kernel
theorem dX12_read_430 : decode cX12_read 430 = .ok (.iload 7, 2) := by decide +kernel
theorem dX12_read_432 : decode cX12_read 432 = .ok (.iaload, 1) := by decide +kernel
theorem dX12_read_433 : decode cX12_read 433 = .ok (.iastore, 1) := by decide +kernel
theorem dX12_read_434 : decode cX12_read 434 = .ok (.iinc 7 1, 3) := by decide +kernel
theorem dX12_read_437 : decode cX12_read 437 = .ok (.goto (-26), 3) := by decide +kernel
theorem dX12_read_440 : decode cX12_read 440 = .ok (.bipush (-9), 2) := by decide +kernel
theorem dX12_read_442 : decode cX12_read 442 = .ok (.ireturn, 1) := by decide +kernel
theorem dX12_names_0 : decode cX12_names 0 = .ok (.iload_n 1, 1) := by decide +kernel
theorem dX12_names_1 : decode cX12_names 1 = .ok (.iconst 0, 1) := by decide +kernel
theorem dX12_names_2 : decode cX12_names 2 = .ok (.iconst 2, 1) := by decide +kernel
theorem dX12_names_3 : decode cX12_names 3 = .ok (.invokestatic 175, 3) := by decide +kernel
theorem dX12_names_6 : decode cX12_names 6 = .ok (.ifCond .eq 12, 3) := by decide +kernel
theorem dX12_names_9 : decode cX12_names 9 = .ok (.aload_n 0, 1) := by decide +kernel
theorem dX12_names_10 : decode cX12_names 10 = .ok (.getfield 50, 3) := by decide +kernel
theorem dX12_names_13 : decode cX12_names 13 = .ok (.iload_n 1, 1) := by decide +kernel
theorem dX12_names_14 : decode cX12_names 14 = .ok (.iaload, 1) := by decide +kernel
theorem dX12_names_15 : decode cX12_names 15 = .ok (.goto 4, 3) := by decide +kernel
theorem dX12_names_18 : decode cX12_names 18 = .ok (.iconst (-1), 1) := by decide +kernel
theorem dX12_names_19 : decode cX12_names 19 = .ok (.ireturn, 1) := by decide +kernel
theorem dX12_handOn_0 : decode cX12_handOn 0 = .ok (.aload_n 0, 1) := by decide +kernel
theorem dX12_handOn_1 : decode cX12_handOn 1 = .ok (.iload_n 1, 1) := by decide +kernel
theorem dX12_handOn_2 : decode cX12_handOn 2 = .ok (.invokevirtual 201, 3) := by decide +kernel
theorem dX12_handOn_5 : decode cX12_handOn 5 = .ok (.istore_n 2, 1) := by decide +kernel
theorem dX12_handOn_6 : decode cX12_handOn 6 = .ok (.iload_n 2, 1) := by decide +kernel
theorem dX12_handOn_7 : decode cX12_handOn 7 = .ok (.ifCond .ge 5, 3) := by decide +kernel
theorem dX12_handOn_10 : decode cX12_handOn 10 = .ok (.iload_n 2, 1) := by decide +kernel
theorem dX12_handOn_11 : decode cX12_handOn 11 = .ok (.ireturn, 1) := by decide +kernel
theorem dX12_handOn_12 : decode cX12_handOn 12 = .ok (.aload_n 0, 1) := by decide +kernel
theorem dX12_handOn_13 : decode cX12_handOn 13 = .ok (.getfield 26, 3) := by decide +kernel
theorem dX12_handOn_16 : decode cX12_handOn 16 = .ok (.iload_n 1, 1) := by decide +kernel
theorem dX12_handOn_17 : decode cX12_handOn 17 = .ok (.iaload, 1) := by decide +kernel
theorem dX12_handOn_18 : decode cX12_handOn 18 = .ok (.aload_n 0, 1) := by decide +kernel
theorem dX12_handOn_19 : decode cX12_handOn 19 = .ok (.getfield 273, 3) := by decide +kernel
theorem dX12_handOn_22 : decode cX12_handOn 22 = .ok (.iadd, 1) := by decide +kernel
theorem dX12_handOn_23 : decode cX12_handOn 23 = .ok (.bipush 60, 2) := by decide +kernel
theorem dX12_handOn_25 : decode cX12_handOn 25 = .ok (.if_icmp .le 9, 3) := by decide +kernel
theorem dX12_handOn_28 : decode cX12_handOn 28 = .ok (.aload_n 0, 1) := by decide +kernel
theorem dX12_handOn_29 : decode cX12_handOn 29 = .ok (.iconst 2, 1) := by decide +kernel
theorem dX12_handOn_30 : decode cX12_handOn 30 = .ok (.invokevirtual 183, 3) := by decide +kernel
theorem dX12_handOn_33 : decode cX12_handOn 33 = .ok (.ireturn, 1) := by decide +kernel
theorem dX12_handOn_34 : decode cX12_handOn 34 = .ok (.iconst 0, 1) := by decide +kernel
theorem dX12_handOn_35 : decode cX12_handOn 35 = .ok (.istore_n 3, 1) := by decide +kernel
theorem dX12_handOn_36 : decode cX12_handOn 36 = .ok (.iload_n 3, 1) := by decide +kernel
theorem dX12_handOn_37 : decode cX12_handOn 37 = .ok (.aload_n 0, 1) := by decide +kernel
theorem dX12_handOn_38 : decode cX12_handOn 38 = .ok (.getfield 273, 3) := by decide +kernel
theorem dX12_handOn_41 : decode cX12_handOn 41 = .ok (.if_icmp .ge 41, 3) := by decide +kernel
theorem dX12_handOn_44 : decode cX12_handOn 44 = .ok (.aload_n 0, 1) := by decide +kernel
theorem dX12_handOn_45 : decode cX12_handOn 45 = .ok (.getfield 29, 3) := by decide +kernel
theorem dX12_handOn_48 : decode cX12_handOn 48 = .ok (.bipush 60, 2) := by decide +kernel
theorem dX12_handOn_50 : decode cX12_handOn 50 = .ok (.iload_n 1, 1) := by decide +kernel
theorem dX12_handOn_51 : decode cX12_handOn 51 = .ok (.imul, 1) := by decide +kernel
theorem dX12_handOn_52 : decode cX12_handOn 52 = .ok (.aload_n 0, 1) := by decide +kernel
theorem dX12_handOn_53 : decode cX12_handOn 53 = .ok (.getfield 26, 3) := by decide +kernel
theorem dX12_handOn_56 : decode cX12_handOn 56 = .ok (.iload_n 1, 1) := by decide +kernel
theorem dX12_handOn_57 : decode cX12_handOn 57 = .ok (.iaload, 1) := by decide +kernel
theorem dX12_handOn_58 : decode cX12_handOn 58 = .ok (.iadd, 1) := by decide +kernel
theorem dX12_handOn_59 : decode cX12_handOn 59 = .ok (.aload_n 0, 1) := by decide +kernel
theorem dX12_handOn_60 : decode cX12_handOn 60 = .ok (.getfield 53, 3) := by decide +kernel
theorem dX12_handOn_63 : decode cX12_handOn 63 = .ok (.iload_n 3, 1) := by decide +kernel
theorem dX12_handOn_64 : decode cX12_handOn 64 = .ok (.iaload, 1) := by decide +kernel
theorem dX12_handOn_65 : decode cX12_handOn 65 = .ok (.iastore, 1) := by decide +kernel
theorem dX12_handOn_66 : decode cX12_handOn 66 = .ok (.aload_n 0, 1) := by decide +kernel
theorem dX12_handOn_67 : decode cX12_handOn 67 = .ok (.getfield 26, 3) := by decide +kernel
theorem dX12_handOn_70 : decode cX12_handOn 70 = .ok (.iload_n 1, 1) := by decide +kernel
theorem dX12_handOn_71 : decode cX12_handOn 71 = .ok (.dup2, 1) := by decide +kernel
theorem dX12_handOn_72 : decode cX12_handOn 72 = .ok (.iaload, 1) := by decide +kernel
theorem dX12_handOn_73 : decode cX12_handOn 73 = .ok (.iconst 1, 1) := by decide +kernel
theorem dX12_handOn_74 : decode cX12_handOn 74 = .ok (.iadd, 1) := by decide +kernel
theorem dX12_handOn_75 : decode cX12_handOn 75 = .ok (.iastore, 1) := by decide +kernel
theorem dX12_handOn_76 : decode cX12_handOn 76 = .ok (.iinc 3 1, 3) := by decide +kernel
theorem dX12_handOn_79 : decode cX12_handOn 79 = .ok (.goto (-43), 3) := by decide +kernel
theorem dX12_handOn_82 : decode cX12_handOn 82 = .ok (.aload_n 0, 1) := by decide +kernel
theorem dX12_handOn_83 : decode cX12_handOn 83 = .ok (.getfield 26, 3) := by decide +kernel
theorem dX12_handOn_86 : decode cX12_handOn 86 = .ok (.iload_n 1, 1) := by decide +kernel
theorem dX12_handOn_87 : decode cX12_handOn 87 = .ok (.iaload, 1) := by decide +kernel
theorem dX12_handOn_88 : decode cX12_handOn 88 = .ok (.ireturn, 1) := by decide +kernel
theorem dX12_unlikeName_0 : decode cX12_unlikeName 0 = .ok (.iconst 0, 1) := by decide +kernel
theorem dX12_unlikeName_1 : decode cX12_unlikeName 1 = .ok (.istore 4, 2) := by decide +kernel
theorem dX12_unlikeName_3 : decode cX12_unlikeName 3 = .ok (.iload 4, 2) := by decide +kernel
theorem dX12_unlikeName_5 : decode cX12_unlikeName 5 = .ok (.bipush 16, 2) := by decide +kernel
theorem dX12_unlikeName_7 : decode cX12_unlikeName 7 = .ok (.if_icmp .ge 125, 3) := by decide +kernel
theorem dX12_unlikeName_10 : decode cX12_unlikeName 10 = .ok (.aload_n 0, 1) := by decide +kernel
theorem dX12_unlikeName_11 : decode cX12_unlikeName 11 = .ok (.iload_n 1, 1) := by decide +kernel
theorem dX12_unlikeName_12 : decode cX12_unlikeName 12 = .ok (.iload_n 2, 1) := by decide +kernel
theorem dX12_unlikeName_13 : decode cX12_unlikeName 13 = .ok (.iload 4, 2) := by decide +kernel
theorem dX12_unlikeName_15 : decode cX12_unlikeName 15 = .ok (.invokevirtual 264, 3) := by decide +kernel
theorem dX12_unlikeName_18 : decode cX12_unlikeName 18 = .ok (.istore 5, 2) := by decide +kernel
theorem dX12_unlikeName_20 : decode cX12_unlikeName 20 = .ok (.aload_n 0, 1) := by decide +kernel
theorem dX12_unlikeName_21 : decode cX12_unlikeName 21 = .ok (.iload_n 1, 1) := by decide +kernel
theorem dX12_unlikeName_22 : decode cX12_unlikeName 22 = .ok (.iload_n 3, 1) := by decide +kernel
theorem dX12_unlikeName_23 : decode cX12_unlikeName 23 = .ok (.iload 4, 2) := by decide +kernel
theorem dX12_unlikeName_25 : decode cX12_unlikeName 25 = .ok (.invokevirtual 264, 3) := by decide +kernel
theorem dX12_unlikeName_28 : decode cX12_unlikeName 28 = .ok (.istore 6, 2) := by decide +kernel
theorem dX12_unlikeName_30 : decode cX12_unlikeName 30 = .ok (.iload 5, 2) := by decide +kernel
theorem dX12_unlikeName_32 : decode cX12_unlikeName 32 = .ok (.ifCond .lt 31, 3) := by decide +kernel
theorem dX12_unlikeName_35 : decode cX12_unlikeName 35 = .ok (.iload 6, 2) := by decide +kernel
theorem dX12_unlikeName_37 : decode cX12_unlikeName 37 = .ok (.ifCond .lt 26, 3) := by decide +kernel
theorem dX12_unlikeName_40 : decode cX12_unlikeName 40 = .ok (.aload_n 0, 1) := by decide +kernel
theorem dX12_unlikeName_41 : decode cX12_unlikeName 41 = .ok (.iload_n 1, 1) := by decide +kernel
theorem dX12_unlikeName_42 : decode cX12_unlikeName 42 = .ok (.iload 5, 2) := by decide +kernel
theorem dX12_unlikeName_44 : decode cX12_unlikeName 44 = .ok (.iconst 1, 1) := by decide +kernel
theorem dX12_unlikeName_45 : decode cX12_unlikeName 45 = .ok (.invokevirtual 235, 3) := by decide +kernel
theorem dX12_unlikeName_48 : decode cX12_unlikeName 48 = .ok (.aload_n 0, 1) := by decide +kernel
theorem dX12_unlikeName_49 : decode cX12_unlikeName 49 = .ok (.iload_n 1, 1) := by decide +kernel
theorem dX12_unlikeName_50 : decode cX12_unlikeName 50 = .ok (.iload 6, 2) := by decide +kernel
theorem dX12_unlikeName_52 : decode cX12_unlikeName 52 = .ok (.iconst 1, 1) := by decide +kernel
theorem dX12_unlikeName_53 : decode cX12_unlikeName 53 = .ok (.invokevirtual 235, 3) := by decide +kernel
theorem dX12_unlikeName_56 : decode cX12_unlikeName 56 = .ok (.if_icmp .ne 7, 3) := by decide +kernel
theorem dX12_unlikeName_59 : decode cX12_unlikeName 59 = .ok (.iconst 1, 1) := by decide +kernel
theorem dX12_unlikeName_60 : decode cX12_unlikeName 60 = .ok (.goto 4, 3) := by decide +kernel
theorem dX12_unlikeName_63 : decode cX12_unlikeName 63 = .ok (.iconst 0, 1) := by decide +kernel
theorem dX12_unlikeName_64 : decode cX12_unlikeName 64 = .ok (.istore 7, 2) := by decide +kernel
theorem dX12_unlikeName_66 : decode cX12_unlikeName 66 = .ok (.iload 6, 2) := by decide +kernel
theorem dX12_unlikeName_68 : decode cX12_unlikeName 68 = .ok (.ifCond .lt 19, 3) := by decide +kernel
theorem dX12_unlikeName_71 : decode cX12_unlikeName 71 = .ok (.aload_n 0, 1) := by decide +kernel
theorem dX12_unlikeName_72 : decode cX12_unlikeName 72 = .ok (.iload_n 1, 1) := by decide +kernel
theorem dX12_unlikeName_73 : decode cX12_unlikeName 73 = .ok (.iload 6, 2) := by decide +kernel
theorem dX12_unlikeName_75 : decode cX12_unlikeName 75 = .ok (.iconst 5, 1) := by decide +kernel
theorem dX12_unlikeName_76 : decode cX12_unlikeName 76 = .ok (.invokevirtual 235, 3) := by decide +kernel
theorem dX12_unlikeName_79 : decode cX12_unlikeName 79 = .ok (.ifCond .ge 8, 3) := by decide +kernel
theorem dX12_unlikeName_82 : decode cX12_unlikeName 82 = .ok (.iload 7, 2) := by decide +kernel
theorem dX12_unlikeName_84 : decode cX12_unlikeName 84 = .ok (.ifCond .eq 39, 3) := by decide +kernel
theorem dX12_unlikeName_87 : decode cX12_unlikeName 87 = .ok (.iload 7, 2) := by decide +kernel
theorem dX12_unlikeName_89 : decode cX12_unlikeName 89 = .ok (.ifCond .eq 37, 3) := by decide +kernel
theorem dX12_unlikeName_92 : decode cX12_unlikeName 92 = .ok (.aload_n 0, 1) := by decide +kernel
theorem dX12_unlikeName_93 : decode cX12_unlikeName 93 = .ok (.iload_n 1, 1) := by decide +kernel
theorem dX12_unlikeName_94 : decode cX12_unlikeName 94 = .ok (.iload 5, 2) := by decide +kernel
theorem dX12_unlikeName_96 : decode cX12_unlikeName 96 = .ok (.iconst 1, 1) := by decide +kernel
theorem dX12_unlikeName_97 : decode cX12_unlikeName 97 = .ok (.invokevirtual 235, 3) := by decide +kernel
theorem dX12_unlikeName_100 : decode cX12_unlikeName 100 = .ok (.iconst 3, 1) := by decide +kernel
theorem dX12_unlikeName_101 : decode cX12_unlikeName 101 = .ok (.if_icmp .ne 25, 3) := by decide +kernel
theorem dX12_unlikeName_104 : decode cX12_unlikeName 104 = .ok (.aload_n 0, 1) := by decide +kernel
theorem dX12_unlikeName_105 : decode cX12_unlikeName 105 = .ok (.iload_n 1, 1) := by decide +kernel
theorem dX12_unlikeName_106 : decode cX12_unlikeName 106 = .ok (.iload 5, 2) := by decide +kernel
