theorem dX11_write_73 : decode cX11_write 73 = .ok (.getfield 20, 3) := by decide +kernel
theorem dX11_write_76 : decode cX11_write 76 = .ok (.iload_n 1, 1) := by decide +kernel
theorem dX11_write_77 : decode cX11_write 77 = .ok (.aaload, 1) := by decide +kernel
theorem dX11_write_78 : decode cX11_write 78 = .ok (.iload_n 2, 1) := by decide +kernel
theorem dX11_write_79 : decode cX11_write 79 = .ok (.aload_n 0, 1) := by decide +kernel
theorem dX11_write_80 : decode cX11_write 80 = .ok (.getfield 11, 3) := by decide +kernel
theorem dX11_write_83 : decode cX11_write 83 = .ok (.iload_n 3, 1) := by decide +kernel
theorem dX11_write_84 : decode cX11_write 84 = .ok (.aaload, 1) := by decide +kernel
theorem dX11_write_85 : decode cX11_write 85 = .ok (.invokevirtual 146, 3) := by decide +kernel
theorem dX11_write_88 : decode cX11_write 88 = .ok (.istore 5, 2) := by decide +kernel
theorem dX11_write_90 : decode cX11_write 90 = .ok (.iload 5, 2) := by decide +kernel
theorem dX11_write_92 : decode cX11_write 92 = .ok (.bipush (-9), 2) := by decide +kernel
theorem dX11_write_94 : decode cX11_write 94 = .ok (.if_icmp .eq 10, 3) := by decide +kernel
theorem dX11_write_97 : decode cX11_write 97 = .ok (.aload_n 0, 1) := by decide +kernel
theorem dX11_write_98 : decode cX11_write 98 = .ok (.iload 5, 2) := by decide +kernel
theorem dX11_write_100 : decode cX11_write 100 = .ok (.invokevirtual 90, 3) := by decide +kernel
theorem dX11_write_103 : decode cX11_write 103 = .ok (.ireturn, 1) := by decide +kernel
theorem dX11_write_104 : decode cX11_write 104 = .ok (.aload_n 0, 1) := by decide +kernel
theorem dX11_write_105 : decode cX11_write 105 = .ok (.getfield 34, 3) := by decide +kernel
theorem dX11_write_108 : decode cX11_write 108 = .ok (.getfield 150, 3) := by decide +kernel
theorem dX11_write_111 : decode cX11_write 111 = .ok (.getfield 118, 3) := by decide +kernel
theorem dX11_write_114 : decode cX11_write 114 = .ok (.bipush 60, 2) := by decide +kernel
theorem dX11_write_116 : decode cX11_write 116 = .ok (.if_icmp .le 9, 3) := by decide +kernel
theorem dX11_write_119 : decode cX11_write 119 = .ok (.aload_n 0, 1) := by decide +kernel
theorem dX11_write_120 : decode cX11_write 120 = .ok (.iconst 2, 1) := by decide +kernel
theorem dX11_write_121 : decode cX11_write 121 = .ok (.invokevirtual 90, 3) := by decide +kernel
theorem dX11_write_124 : decode cX11_write 124 = .ok (.ireturn, 1) := by decide +kernel
theorem dX11_write_125 : decode cX11_write 125 = .ok (.aload_n 0, 1) := by decide +kernel
theorem dX11_write_126 : decode cX11_write 126 = .ok (.getfield 15, 3) := by decide +kernel
theorem dX11_write_129 : decode cX11_write 129 = .ok (.iload 4, 2) := by decide +kernel
theorem dX11_write_131 : decode cX11_write 131 = .ok (.aaload, 1) := by decide +kernel
theorem dX11_write_132 : decode cX11_write 132 = .ok (.aload_n 0, 1) := by decide +kernel
theorem dX11_write_133 : decode cX11_write 133 = .ok (.getfield 34, 3) := by decide +kernel
theorem dX11_write_136 : decode cX11_write 136 = .ok (.getfield 150, 3) := by decide +kernel
theorem dX11_write_139 : decode cX11_write 139 = .ok (.invokevirtual 154, 3) := by decide +kernel
theorem dX11_write_142 : decode cX11_write 142 = .ok (.aload_n 0, 1) := by decide +kernel
theorem dX11_write_143 : decode cX11_write 143 = .ok (.getfield 15, 3) := by decide +kernel
theorem dX11_write_146 : decode cX11_write 146 = .ok (.iload 4, 2) := by decide +kernel
theorem dX11_write_148 : decode cX11_write 148 = .ok (.aaload, 1) := by decide +kernel
theorem dX11_write_149 : decode cX11_write 149 = .ok (.getfield 118, 3) := by decide +kernel
theorem dX11_write_152 : decode cX11_write 152 = .ok (.ireturn, 1) := by decide +kernel
theorem dX11_read_0 : decode cX11_read 0 = .ok (.iload_n 1, 1) := by decide +kernel
theorem dX11_read_1 : decode cX11_read 1 = .ok (.iconst 4, 1) := by decide +kernel
theorem dX11_read_2 : decode cX11_read 2 = .ok (.invokestatic 86, 3) := by decide +kernel
theorem dX11_read_5 : decode cX11_read 5 = .ok (.ifCond .eq 31, 3) := by decide +kernel
theorem dX11_read_8 : decode cX11_read 8 = .ok (.iload_n 2, 1) := by decide +kernel
theorem dX11_read_9 : decode cX11_read 9 = .ok (.bipush 10, 2) := by decide +kernel
theorem dX11_read_11 : decode cX11_read 11 = .ok (.invokestatic 86, 3) := by decide +kernel
theorem dX11_read_14 : decode cX11_read 14 = .ok (.ifCond .eq 22, 3) := by decide +kernel
theorem dX11_read_17 : decode cX11_read 17 = .ok (.iload_n 3, 1) := by decide +kernel
theorem dX11_read_18 : decode cX11_read 18 = .ok (.bipush 6, 2) := by decide +kernel
theorem dX11_read_20 : decode cX11_read 20 = .ok (.invokestatic 86, 3) := by decide +kernel
theorem dX11_read_23 : decode cX11_read 23 = .ok (.ifCond .eq 13, 3) := by decide +kernel
theorem dX11_read_26 : decode cX11_read 26 = .ok (.iload 4, 2) := by decide +kernel
theorem dX11_read_28 : decode cX11_read 28 = .ok (.bipush 6, 2) := by decide +kernel
theorem dX11_read_30 : decode cX11_read 30 = .ok (.invokestatic 86, 3) := by decide +kernel
theorem dX11_read_33 : decode cX11_read 33 = .ok (.ifCond .ne 5, 3) := by decide +kernel
theorem dX11_read_36 : decode cX11_read 36 = .ok (.iconst (-1), 1) := by decide +kernel
theorem dX11_read_37 : decode cX11_read 37 = .ok (.ireturn, 1) := by decide +kernel
theorem dX11_read_38 : decode cX11_read 38 = .ok (.aload_n 0, 1) := by decide +kernel
theorem dX11_read_39 : decode cX11_read 39 = .ok (.getfield 20, 3) := by decide +kernel
theorem dX11_read_42 : decode cX11_read 42 = .ok (.iload_n 1, 1) := by decide +kernel
theorem dX11_read_43 : decode cX11_read 43 = .ok (.aaload, 1) := by decide +kernel
theorem dX11_read_44 : decode cX11_read 44 = .ok (.getfield 136, 3) := by decide +kernel
theorem dX11_read_47 : decode cX11_read 47 = .ok (.ifCond .eq 15, 3) := by decide +kernel
theorem dX11_read_50 : decode cX11_read 50 = .ok (.aload_n 0, 1) := by decide +kernel
theorem dX11_read_51 : decode cX11_read 51 = .ok (.getfield 15, 3) := by decide +kernel
theorem dX11_read_54 : decode cX11_read 54 = .ok (.iload_n 3, 1) := by decide +kernel
theorem dX11_read_55 : decode cX11_read 55 = .ok (.aaload, 1) := by decide +kernel
theorem dX11_read_56 : decode cX11_read 56 = .ok (.getfield 105, 3) := by decide +kernel
theorem dX11_read_59 : decode cX11_read 59 = .ok (.ifCond .ne 9, 3) := by decide +kernel
theorem dX11_read_62 : decode cX11_read 62 = .ok (.aload_n 0, 1) := by decide +kernel
theorem dX11_read_63 : decode cX11_read 63 = .ok (.iconst 1, 1) := by decide +kernel
theorem dX11_read_64 : decode cX11_read 64 = .ok (.invokevirtual 90, 3) := by decide +kernel
theorem dX11_read_67 : decode cX11_read 67 = .ok (.ireturn, 1) := by decide +kernel
theorem dX11_read_68 : decode cX11_read 68 = .ok (.aload_n 0, 1) := by decide +kernel
theorem dX11_read_69 : decode cX11_read 69 = .ok (.getfield 41, 3) := by decide +kernel
theorem dX11_read_72 : decode cX11_read 72 = .ok (.aload_n 0, 1) := by decide +kernel
theorem dX11_read_73 : decode cX11_read 73 = .ok (.getfield 20, 3) := by decide +kernel
theorem dX11_read_76 : decode cX11_read 76 = .ok (.iload_n 1, 1) := by decide +kernel
theorem dX11_read_77 : decode cX11_read 77 = .ok (.aaload, 1) := by decide +kernel
theorem dX11_read_78 : decode cX11_read 78 = .ok (.iload_n 2, 1) := by decide +kernel
theorem dX11_read_79 : decode cX11_read 79 = .ok (.aload_n 0, 1) := by decide +kernel
theorem dX11_read_80 : decode cX11_read 80 = .ok (.getfield 15, 3) := by decide +kernel
theorem dX11_read_83 : decode cX11_read 83 = .ok (.iload_n 3, 1) := by decide +kernel
theorem dX11_read_84 : decode cX11_read 84 = .ok (.aaload, 1) := by decide +kernel
theorem dX11_read_85 : decode cX11_read 85 = .ok (.invokevirtual 157, 3) := by decide +kernel
theorem dX11_read_88 : decode cX11_read 88 = .ok (.istore 5, 2) := by decide +kernel
theorem dX11_read_90 : decode cX11_read 90 = .ok (.iload 5, 2) := by decide +kernel
theorem dX11_read_92 : decode cX11_read 92 = .ok (.bipush (-9), 2) := by decide +kernel
theorem dX11_read_94 : decode cX11_read 94 = .ok (.if_icmp .eq 6, 3) := by decide +kernel
theorem dX11_read_97 : decode cX11_read 97 = .ok (.iload 5, 2) := by decide +kernel
theorem dX11_read_99 : decode cX11_read 99 = .ok (.ireturn, 1) := by decide +kernel
theorem dX11_read_100 : decode cX11_read 100 = .ok (.aload_n 0, 1) := by decide +kernel
theorem dX11_read_101 : decode cX11_read 101 = .ok (.getfield 41, 3) := by decide +kernel
theorem dX11_read_104 : decode cX11_read 104 = .ok (.aload_n 0, 1) := by decide +kernel
theorem dX11_read_105 : decode cX11_read 105 = .ok (.getfield 20, 3) := by decide +kernel
theorem dX11_read_108 : decode cX11_read 108 = .ok (.iload_n 1, 1) := by decide +kernel
theorem dX11_read_109 : decode cX11_read 109 = .ok (.aaload, 1) := by decide +kernel
theorem dX11_read_110 : decode cX11_read 110 = .ok (.iload_n 2, 1) := by decide +kernel
theorem dX11_read_111 : decode cX11_read 111 = .ok (.aload_n 0, 1) := by decide +kernel
theorem dX11_read_112 : decode cX11_read 112 = .ok (.getfield 15, 3) := by decide +kernel
theorem dX11_read_115 : decode cX11_read 115 = .ok (.iload_n 3, 1) := by decide +kernel
theorem dX11_read_116 : decode cX11_read 116 = .ok (.aaload, 1) := by decide +kernel
theorem dX11_read_117 : decode cX11_read 117 = .ok (.invokevirtual 160, 3) := by decide +kernel
theorem dX11_read_120 : decode cX11_read 120 = .ok (.aload_n 0, 1) := by decide +kernel
theorem dX11_read_121 : decode cX11_read 121 = .ok (.getfield 41, 3) := by decide +kernel
theorem dX11_read_124 : decode cX11_read 124 = .ok (.getfield 164, 3) := by decide +kernel
theorem dX11_read_127 : decode cX11_read 127 = .ok (.getfield 118, 3) := by decide +kernel
theorem dX11_read_130 : decode cX11_read 130 = .ok (.bipush 60, 2) := by decide +kernel
theorem dX11_read_132 : decode cX11_read 132 = .ok (.if_icmp .le 9, 3) := by decide +kernel
theorem dX11_read_135 : decode cX11_read 135 = .ok (.aload_n 0, 1) := by decide +kernel
theorem dX11_read_136 : decode cX11_read 136 = .ok (.iconst 2, 1) := by decide +kernel
theorem dX11_read_137 : decode cX11_read 137 = .ok (.invokevirtual 90, 3) := by decide +kernel
theorem dX11_read_140 : decode cX11_read 140 = .ok (.ireturn, 1) := by decide +kernel
theorem dX11_read_141 : decode cX11_read 141 = .ok (.aload_n 0, 1) := by decide +kernel
theorem dX11_read_142 : decode cX11_read 142 = .ok (.getfield 41, 3) := by decide +kernel
theorem dX11_read_145 : decode cX11_read 145 = .ok (.invokevirtual 167, 3) := by decide +kernel
theorem dX11_read_148 : decode cX11_read 148 = .ok (.aload_n 0, 1) := by decide +kernel
theorem dX11_read_149 : decode cX11_read 149 = .ok (.getfield 11, 3) := by decide +kernel
theorem dX11_read_152 : decode cX11_read 152 = .ok (.iload 4, 2) := by decide +kernel
theorem dX11_read_154 : decode cX11_read 154 = .ok (.aaload, 1) := by decide +kernel
theorem dX11_read_155 : decode cX11_read 155 = .ok (.aload_n 0, 1) := by decide +kernel
theorem dX11_read_156 : decode cX11_read 156 = .ok (.getfield 41, 3) := by decide +kernel
theorem dX11_read_159 : decode cX11_read 159 = .ok (.getfield 164, 3) := by decide +kernel
theorem dX11_read_162 : decode cX11_read 162 = .ok (.invokevirtual 154, 3) := by decide +kernel
theorem dX11_read_165 : decode cX11_read 165 = .ok (.bipush (-9), 2) := by decide +kernel
theorem dX11_read_167 : decode cX11_read 167 = .ok (.ireturn, 1) := by decide +kernel
theorem dX11_names_0 : decode cX11_names 0 = .ok (.iload_n 1, 1) := by decide +kernel
theorem dX11_names_1 : decode cX11_names 1 = .ok (.tableswitch 51 0 2 #[27, 35, 43], 27) := by decide +kernel
theorem dX11_names_28 : decode cX11_names 28 = .ok (.aload_n 0, 1) := by decide +kernel
theorem dX11_names_29 : decode cX11_names 29 = .ok (.getfield 41, 3) := by decide +kernel
theorem dX11_names_32 : decode cX11_names 32 = .ok (.getfield 170, 3) := by decide +kernel
theorem dX11_names_35 : decode cX11_names 35 = .ok (.ireturn, 1) := by decide +kernel
theorem dX11_names_36 : decode cX11_names 36 = .ok (.aload_n 0, 1) := by decide +kernel
theorem dX11_names_37 : decode cX11_names 37 = .ok (.getfield 41, 3) := by decide +kernel
theorem dX11_names_40 : decode cX11_names 40 = .ok (.getfield 173, 3) := by decide +kernel
theorem dX11_names_43 : decode cX11_names 43 = .ok (.ireturn, 1) := by decide +kernel
theorem dX11_names_44 : decode cX11_names 44 = .ok (.aload_n 0, 1) := by decide +kernel
theorem dX11_names_45 : decode cX11_names 45 = .ok (.getfield 41, 3) := by decide +kernel
theorem dX11_names_48 : decode cX11_names 48 = .ok (.getfield 176, 3) := by decide +kernel
theorem dX11_names_51 : decode cX11_names 51 = .ok (.ireturn, 1) := by decide +kernel
theorem dX11_names_52 : decode cX11_names 52 = .ok (.iconst (-1), 1) := by decide +kernel
theorem dX11_names_53 : decode cX11_names 53 = .ok (.ireturn, 1) := by decide +kernel
theorem dX11_handOn_0 : decode cX11_handOn 0 = .ok (.iload_n 1, 1) := by decide +kernel
theorem dX11_handOn_1 : decode cX11_handOn 1 = .ok (.bipush 6, 2) := by decide +kernel
theorem dX11_handOn_3 : decode cX11_handOn 3 = .ok (.invokestatic 86, 3) := by decide +kernel
theorem dX11_handOn_6 : decode cX11_handOn 6 = .ok (.ifCond .ne 5, 3) := by decide +kernel
theorem dX11_handOn_9 : decode cX11_handOn 9 = .ok (.iconst (-1), 1) := by decide +kernel
theorem dX11_handOn_10 : decode cX11_handOn 10 = .ok (.ireturn, 1) := by decide +kernel
theorem dX11_handOn_11 : decode cX11_handOn 11 = .ok (.aload_n 0, 1) := by decide +kernel
theorem dX11_handOn_12 : decode cX11_handOn 12 = .ok (.getfield 15, 3) := by decide +kernel
theorem dX11_handOn_15 : decode cX11_handOn 15 = .ok (.iload_n 1, 1) := by decide +kernel
theorem dX11_handOn_16 : decode cX11_handOn 16 = .ok (.aaload, 1) := by decide +kernel
theorem dX11_handOn_17 : decode cX11_handOn 17 = .ok (.getfield 105, 3) := by decide +kernel
theorem dX11_handOn_20 : decode cX11_handOn 20 = .ok (.ifCond .ne 9, 3) := by decide +kernel
theorem dX11_handOn_23 : decode cX11_handOn 23 = .ok (.aload_n 0, 1) := by decide +kernel
theorem dX11_handOn_24 : decode cX11_handOn 24 = .ok (.iconst 1, 1) := by decide +kernel
theorem dX11_handOn_25 : decode cX11_handOn 25 = .ok (.invokevirtual 90, 3) := by decide +kernel
theorem dX11_handOn_28 : decode cX11_handOn 28 = .ok (.ireturn, 1) := by decide +kernel
theorem dX11_handOn_29 : decode cX11_handOn 29 = .ok (.aload_n 0, 1) := by decide +kernel
theorem dX11_handOn_30 : decode cX11_handOn 30 = .ok (.getfield 15, 3) := by decide +kernel
theorem dX11_handOn_33 : decode cX11_handOn 33 = .ok (.iload_n 1, 1) := by decide +kernel
theorem dX11_handOn_34 : decode cX11_handOn 34 = .ok (.aaload, 1) := by decide +kernel
theorem dX11_handOn_35 : decode cX11_handOn 35 = .ok (.getfield 118, 3) := by decide +kernel
theorem dX11_handOn_38 : decode cX11_handOn 38 = .ok (.aload_n 0, 1) := by decide +kernel
theorem dX11_handOn_39 : decode cX11_handOn 39 = .ok (.getfield 41, 3) := by decide +kernel
theorem dX11_handOn_42 : decode cX11_handOn 42 = .ok (.getfield 179, 3) := by decide +kernel
theorem dX11_handOn_45 : decode cX11_handOn 45 = .ok (.getfield 118, 3) := by decide +kernel
theorem dX11_handOn_48 : decode cX11_handOn 48 = .ok (.iadd, 1) := by decide +kernel
theorem dX11_handOn_49 : decode cX11_handOn 49 = .ok (.bipush 60, 2) := by decide +kernel
theorem dX11_handOn_51 : decode cX11_handOn 51 = .ok (.if_icmp .le 9, 3) := by decide +kernel
theorem dX11_handOn_54 : decode cX11_handOn 54 = .ok (.aload_n 0, 1) := by decide +kernel
theorem dX11_handOn_55 : decode cX11_handOn 55 = .ok (.iconst 2, 1) := by decide +kernel
theorem dX11_handOn_56 : decode cX11_handOn 56 = .ok (.invokevirtual 90, 3) := by decide +kernel
theorem dX11_handOn_59 : decode cX11_handOn 59 = .ok (.ireturn, 1) := by decide +kernel
theorem dX11_handOn_60 : decode cX11_handOn 60 = .ok (.aload_n 0, 1) := by decide +kernel
theorem dX11_handOn_61 : decode cX11_handOn 61 = .ok (.getfield 15, 3) := by decide +kernel
theorem dX11_handOn_64 : decode cX11_handOn 64 = .ok (.iload_n 1, 1) := by decide +kernel
theorem dX11_handOn_65 : decode cX11_handOn 65 = .ok (.aaload, 1) := by decide +kernel
theorem dX11_handOn_66 : decode cX11_handOn 66 = .ok (.aload_n 0, 1) := by decide +kernel
theorem dX11_handOn_67 : decode cX11_handOn 67 = .ok (.getfield 41, 3) := by decide +kernel
theorem dX11_handOn_70 : decode cX11_handOn 70 = .ok (.getfield 179, 3) := by decide +kernel
theorem dX11_handOn_73 : decode cX11_handOn 73 = .ok (.invokevirtual 182, 3) := by decide +kernel
theorem dX11_handOn_76 : decode cX11_handOn 76 = .ok (.aload_n 0, 1) := by decide +kernel
theorem dX11_handOn_77 : decode cX11_handOn 77 = .ok (.getfield 15, 3) := by decide +kernel
theorem dX11_handOn_80 : decode cX11_handOn 80 = .ok (.iload_n 1, 1) := by decide +kernel
theorem dX11_handOn_81 : decode cX11_handOn 81 = .ok (.aaload, 1) := by decide +kernel
theorem dX11_handOn_82 : decode cX11_handOn 82 = .ok (.getfield 118, 3) := by decide +kernel
theorem dX11_handOn_85 : decode cX11_handOn 85 = .ok (.ireturn, 1) := by decide +kernel
theorem dX11_fits_0 : decode cX11_fits 0 = .ok (.aload_n 0, 1) := by decide +kernel
theorem dX11_fits_1 : decode cX11_fits 1 = .ok (.iload_n 1, 1) := by decide +kernel
theorem dX11_fits_2 : decode cX11_fits 2 = .ok (.iload_n 2, 1) := by decide +kernel
theorem dX11_fits_3 : decode cX11_fits 3 = .ok (.iload_n 3, 1) := by decide +kernel
theorem dX11_fits_4 : decode cX11_fits 4 = .ok (.invokevirtual 185, 3) := by decide +kernel
theorem dX11_fits_7 : decode cX11_fits 7 = .ok (.istore 4, 2) := by decide +kernel
theorem dX11_fits_9 : decode cX11_fits 9 = .ok (.iload 4, 2) := by decide +kernel
theorem dX11_fits_11 : decode cX11_fits 11 = .ok (.bipush (-9), 2) := by decide +kernel
theorem dX11_fits_13 : decode cX11_fits 13 = .ok (.if_icmp .eq 6, 3) := by decide +kernel
theorem dX11_fits_16 : decode cX11_fits 16 = .ok (.iload 4, 2) := by decide +kernel
theorem dX11_fits_18 : decode cX11_fits 18 = .ok (.ireturn, 1) := by decide +kernel
theorem dX11_fits_19 : decode cX11_fits 19 = .ok (.aload_n 0, 1) := by decide +kernel
theorem dX11_fits_20 : decode cX11_fits 20 = .ok (.getfield 20, 3) := by decide +kernel
theorem dX11_fits_23 : decode cX11_fits 23 = .ok (.iload_n 1, 1) := by decide +kernel
theorem dX11_fits_24 : decode cX11_fits 24 = .ok (.aaload, 1) := by decide +kernel
theorem dX11_fits_25 : decode cX11_fits 25 = .ok (.iload_n 2, 1) := by decide +kernel
theorem dX11_fits_26 : decode cX11_fits 26 = .ok (.iload_n 3, 1) := by decide +kernel
theorem dX11_fits_27 : decode cX11_fits 27 = .ok (.invokevirtual 189, 3) := by decide +kernel
theorem dX11_fits_30 : decode cX11_fits 30 = .ok (.ifCond .ne 7, 3) := by decide +kernel
theorem dX11_fits_33 : decode cX11_fits 33 = .ok (.iconst 1, 1) := by decide +kernel
theorem dX11_fits_34 : decode cX11_fits 34 = .ok (.goto 4, 3) := by decide +kernel
theorem dX11_fits_37 : decode cX11_fits 37 = .ok (.iconst 0, 1) := by decide +kernel
theorem dX11_fits_38 : decode cX11_fits 38 = .ok (.ireturn, 1) := by decide +kernel
theorem dX11_unlike_0 : decode cX11_unlike 0 = .ok (.aload_n 0, 1) := by decide +kernel
theorem dX11_unlike_1 : decode cX11_unlike 1 = .ok (.iload_n 1, 1) := by decide +kernel
theorem dX11_unlike_2 : decode cX11_unlike 2 = .ok (.iload_n 2, 1) := by decide +kernel
theorem dX11_unlike_3 : decode cX11_unlike 3 = .ok (.iload_n 3, 1) := by decide +kernel
theorem dX11_unlike_4 : decode cX11_unlike 4 = .ok (.invokevirtual 185, 3) := by decide +kernel
theorem dX11_unlike_7 : decode cX11_unlike 7 = .ok (.istore 4, 2) := by decide +kernel
theorem dX11_unlike_9 : decode cX11_unlike 9 = .ok (.iload 4, 2) := by decide +kernel
theorem dX11_unlike_11 : decode cX11_unlike 11 = .ok (.bipush (-9), 2) := by decide +kernel
theorem dX11_unlike_13 : decode cX11_unlike 13 = .ok (.if_icmp .eq 6, 3) := by decide +kernel
theorem dX11_unlike_16 : decode cX11_unlike 16 = .ok (.iload 4, 2) := by decide +kernel
theorem dX11_unlike_18 : decode cX11_unlike 18 = .ok (.ireturn, 1) := by decide +kernel
theorem dX11_unlike_19 : decode cX11_unlike 19 = .ok (.aload_n 0, 1) := by decide +kernel
theorem dX11_unlike_20 : decode cX11_unlike 20 = .ok (.getfield 20, 3) := by decide +kernel
theorem dX11_unlike_23 : decode cX11_unlike 23 = .ok (.iload_n 1, 1) := by decide +kernel
theorem dX11_unlike_24 : decode cX11_unlike 24 = .ok (.aaload, 1) := by decide +kernel
theorem dX11_unlike_25 : decode cX11_unlike 25 = .ok (.iload_n 2, 1) := by decide +kernel
theorem dX11_unlike_26 : decode cX11_unlike 26 = .ok (.iload_n 3, 1) := by decide +kernel
theorem dX11_unlike_27 : decode cX11_unlike 27 = .ok (.invokevirtual 189, 3) := by decide +kernel
theorem dX11_unlike_30 : decode cX11_unlike 30 = .ok (.istore 5, 2) := by decide +kernel
theorem dX11_unlike_32 : decode cX11_unlike 32 = .ok (.iconst 0, 1) := by decide +kernel
theorem dX11_unlike_33 : decode cX11_unlike 33 = .ok (.istore 6, 2) := by decide +kernel
theorem dX11_unlike_35 : decode cX11_unlike 35 = .ok (.iload 6, 2) := by decide +kernel
theorem dX11_unlike_37 : decode cX11_unlike 37 = .ok (.bipush 16, 2) := by decide +kernel
theorem dX11_unlike_39 : decode cX11_unlike 39 = .ok (.if_icmp .ge 22, 3) := by decide +kernel
theorem dX11_unlike_42 : decode cX11_unlike 42 = .ok (.iload 5, 2) := by decide +kernel
theorem dX11_unlike_44 : decode cX11_unlike 44 = .ok (.iconst 1, 1) := by decide +kernel
theorem dX11_unlike_45 : decode cX11_unlike 45 = .ok (.iload 6, 2) := by decide +kernel
theorem dX11_unlike_47 : decode cX11_unlike 47 = .ok (.ishl, 1) := by decide +kernel
theorem dX11_unlike_48 : decode cX11_unlike 48 = .ok (.iand, 1) := by decide +kernel
theorem dX11_unlike_49 : decode cX11_unlike 49 = .ok (.ifCond .eq 6, 3) := by decide +kernel
theorem dX11_unlike_52 : decode cX11_unlike 52 = .ok (.iload 6, 2) := by decide +kernel
theorem dX11_unlike_54 : decode cX11_unlike 54 = .ok (.ireturn, 1) := by decide +kernel
theorem dX11_unlike_55 : decode cX11_unlike 55 = .ok (.iinc 6 1, 3) := by decide +kernel
theorem dX11_unlike_58 : decode cX11_unlike 58 = .ok (.goto (-23), 3) := by decide +kernel
theorem dX11_unlike_61 : decode cX11_unlike 61 = .ok (.bipush (-9), 2) := by decide +kernel
theorem dX11_unlike_63 : decode cX11_unlike 63 = .ok (.ireturn, 1) := by decide +kernel
theorem dX11_version_0 : decode cX11_version 0 = .ok (.iload_n 1, 1) := by decide +kernel
theorem dX11_version_1 : decode cX11_version 1 = .ok (.bipush 6, 2) := by decide +kernel
theorem dX11_version_3 : decode cX11_version 3 = .ok (.invokestatic 86, 3) := by decide +kernel
theorem dX11_version_6 : decode cX11_version 6 = .ok (.ifCond .eq 21, 3) := by decide +kernel
theorem dX11_version_9 : decode cX11_version 9 = .ok (.iload_n 2, 1) := by decide +kernel
theorem dX11_version_10 : decode cX11_version 10 = .ok (.bipush 10, 2) := by decide +kernel
theorem dX11_version_12 : decode cX11_version 12 = .ok (.invokestatic 86, 3) := by decide +kernel
theorem dX11_version_15 : decode cX11_version 15 = .ok (.ifCond .eq 12, 3) := by decide +kernel
theorem dX11_version_18 : decode cX11_version 18 = .ok (.iload_n 3, 1) := by decide +kernel
theorem dX11_version_19 : decode cX11_version 19 = .ok (.bipush 10, 2) := by decide +kernel
theorem dX11_version_21 : decode cX11_version 21 = .ok (.invokestatic 86, 3) := by decide +kernel
theorem dX11_version_24 : decode cX11_version 24 = .ok (.ifCond .ne 5, 3) := by decide +kernel
theorem dX11_version_27 : decode cX11_version 27 = .ok (.iconst (-1), 1) := by decide +kernel
theorem dX11_version_28 : decode cX11_version 28 = .ok (.ireturn, 1) := by decide +kernel
theorem dX11_version_29 : decode cX11_version 29 = .ok (.aload_n 0, 1) := by decide +kernel
theorem dX11_version_30 : decode cX11_version 30 = .ok (.getfield 63, 3) := by decide +kernel
theorem dX11_version_33 : decode cX11_version 33 = .ok (.iload_n 1, 1) := by decide +kernel
theorem dX11_version_34 : decode cX11_version 34 = .ok (.aaload, 1) := by decide +kernel
theorem dX11_version_35 : decode cX11_version 35 = .ok (.iload_n 2, 1) := by decide +kernel
theorem dX11_version_36 : decode cX11_version 36 = .ok (.putfield 192, 3) := by decide +kernel
theorem dX11_version_39 : decode cX11_version 39 = .ok (.aload_n 0, 1) := by decide +kernel
theorem dX11_version_40 : decode cX11_version 40 = .ok (.getfield 63, 3) := by decide +kernel
theorem dX11_version_43 : decode cX11_version 43 = .ok (.iload_n 1, 1) := by decide +kernel
theorem dX11_version_44 : decode cX11_version 44 = .ok (.aaload, 1) := by decide +kernel
theorem dX11_version_45 : decode cX11_version 45 = .ok (.iload_n 3, 1) := by decide +kernel
theorem dX11_version_46 : decode cX11_version 46 = .ok (.putfield 197, 3) := by decide +kernel
theorem dX11_version_49 : decode cX11_version 49 = .ok (.iconst 1, 1) := by decide +kernel
theorem dX11_version_50 : decode cX11_version 50 = .ok (.ireturn, 1) := by decide +kernel
theorem dX11_door_0 : decode cX11_door 0 = .ok (.iload_n 1, 1) := by decide +kernel
theorem dX11_door_1 : decode cX11_door 1 = .ok (.iload_n 2, 1) := by decide +kernel
theorem dX11_door_2 : decode cX11_door 2 = .ok (.invokestatic 200, 3) := by decide +kernel
theorem dX11_door_5 : decode cX11_door 5 = .ok (.ifCond .eq 17, 3) := by decide +kernel
theorem dX11_door_8 : decode cX11_door 8 = .ok (.iload_n 3, 1) := by decide +kernel
theorem dX11_door_9 : decode cX11_door 9 = .ok (.bipush (-9), 2) := by decide +kernel
theorem dX11_door_11 : decode cX11_door 11 = .ok (.if_icmp .eq 13, 3) := by decide +kernel
theorem dX11_door_14 : decode cX11_door 14 = .ok (.iload_n 3, 1) := by decide +kernel
theorem dX11_door_15 : decode cX11_door 15 = .ok (.iconst 4, 1) := by decide +kernel
theorem dX11_door_16 : decode cX11_door 16 = .ok (.invokestatic 86, 3) := by decide +kernel
theorem dX11_door_19 : decode cX11_door 19 = .ok (.ifCond .ne 5, 3) := by decide +kernel
theorem dX11_door_22 : decode cX11_door 22 = .ok (.iconst (-1), 1) := by decide +kernel
theorem dX11_door_23 : decode cX11_door 23 = .ok (.ireturn, 1) := by decide +kernel
theorem dX11_door_24 : decode cX11_door 24 = .ok (.iload_n 3, 1) := by decide +kernel
theorem dX11_door_25 : decode cX11_door 25 = .ok (.bipush (-9), 2) := by decide +kernel
theorem dX11_door_27 : decode cX11_door 27 = .ok (.if_icmp .eq 21, 3) := by decide +kernel
theorem dX11_door_30 : decode cX11_door 30 = .ok (.aload_n 0, 1) := by decide +kernel
theorem dX11_door_31 : decode cX11_door 31 = .ok (.getfield 20, 3) := by decide +kernel
theorem dX11_door_34 : decode cX11_door 34 = .ok (.iload_n 3, 1) := by decide +kernel
theorem dX11_door_35 : decode cX11_door 35 = .ok (.aaload, 1) := by decide +kernel
theorem dX11_door_36 : decode cX11_door 36 = .ok (.getfield 136, 3) := by decide +kernel
theorem dX11_door_39 : decode cX11_door 39 = .ok (.ifCond .ne 9, 3) := by decide +kernel
theorem dX11_door_42 : decode cX11_door 42 = .ok (.aload_n 0, 1) := by decide +kernel
theorem dX11_door_43 : decode cX11_door 43 = .ok (.iconst 1, 1) := by decide +kernel
theorem dX11_door_44 : decode cX11_door 44 = .ok (.invokevirtual 90, 3) := by decide +kernel
theorem dX11_door_47 : decode cX11_door 47 = .ok (.ireturn, 1) := by decide +kernel
theorem dX11_door_48 : decode cX11_door 48 = .ok (.aload_n 0, 1) := by decide +kernel
theorem dX11_door_49 : decode cX11_door 49 = .ok (.getfield 63, 3) := by decide +kernel
theorem dX11_door_52 : decode cX11_door 52 = .ok (.iload_n 1, 1) := by decide +kernel
theorem dX11_door_53 : decode cX11_door 53 = .ok (.aaload, 1) := by decide +kernel
theorem dX11_door_54 : decode cX11_door 54 = .ok (.getfield 203, 3) := by decide +kernel
theorem dX11_door_57 : decode cX11_door 57 = .ok (.iload_n 2, 1) := by decide +kernel
theorem dX11_door_58 : decode cX11_door 58 = .ok (.iaload, 1) := by decide +kernel
theorem dX11_door_59 : decode cX11_door 59 = .ok (.istore 4, 2) := by decide +kernel
theorem dX11_door_61 : decode cX11_door 61 = .ok (.aload_n 0, 1) := by decide +kernel
theorem dX11_door_62 : decode cX11_door 62 = .ok (.getfield 63, 3) := by decide +kernel
theorem dX11_door_65 : decode cX11_door 65 = .ok (.iload_n 1, 1) := by decide +kernel
theorem dX11_door_66 : decode cX11_door 66 = .ok (.aaload, 1) := by decide +kernel
theorem dX11_door_67 : decode cX11_door 67 = .ok (.getfield 203, 3) := by decide +kernel
theorem dX11_door_70 : decode cX11_door 70 = .ok (.iload_n 2, 1) := by decide +kernel
theorem dX11_door_71 : decode cX11_door 71 = .ok (.iload_n 3, 1) := by decide +kernel
theorem dX11_door_72 : decode cX11_door 72 = .ok (.iastore, 1) := by decide +kernel
theorem dX11_door_73 : decode cX11_door 73 = .ok (.iload 4, 2) := by decide +kernel
theorem dX11_door_75 : decode cX11_door 75 = .ok (.ireturn, 1) := by decide +kernel
theorem dX11_clash_0 : decode cX11_clash 0 = .ok (.bipush (-9), 2) := by decide +kernel
theorem dX11_clash_2 : decode cX11_clash 2 = .ok (.istore_n 1, 1) := by decide +kernel
theorem dX11_clash_3 : decode cX11_clash 3 = .ok (.iconst 0, 1) := by decide +kernel
theorem dX11_clash_4 : decode cX11_clash 4 = .ok (.istore_n 2, 1) := by decide +kernel
theorem dX11_clash_5 : decode cX11_clash 5 = .ok (.iconst 0, 1) := by decide +kernel
theorem dX11_clash_6 : decode cX11_clash 6 = .ok (.istore_n 3, 1) := by decide +kernel
theorem dX11_clash_7 : decode cX11_clash 7 = .ok (.iload_n 3, 1) := by decide +kernel
theorem dX11_clash_8 : decode cX11_clash 8 = .ok (.bipush 6, 2) := by decide +kernel
theorem dX11_clash_10 : decode cX11_clash 10 = .ok (.if_icmp .ge 99, 3) := by decide +kernel
theorem dX11_clash_13 : decode cX11_clash 13 = .ok (.iconst 0, 1) := by decide +kernel
theorem dX11_clash_14 : decode cX11_clash 14 = .ok (.istore 4, 2) := by decide +kernel
theorem dX11_clash_16 : decode cX11_clash 16 = .ok (.iload 4, 2) := by decide +kernel
theorem dX11_clash_18 : decode cX11_clash 18 = .ok (.bipush 6, 2) := by decide +kernel
theorem dX11_clash_20 : decode cX11_clash 20 = .ok (.if_icmp .ge 83, 3) := by decide +kernel
theorem dX11_clash_23 : decode cX11_clash 23 = .ok (.aload_n 0, 1) := by decide +kernel
theorem dX11_clash_24 : decode cX11_clash 24 = .ok (.getfield 63, 3) := by decide +kernel
theorem dX11_clash_27 : decode cX11_clash 27 = .ok (.iload_n 3, 1) := by decide +kernel
theorem dX11_clash_28 : decode cX11_clash 28 = .ok (.aaload, 1) := by decide +kernel
theorem dX11_clash_29 : decode cX11_clash 29 = .ok (.getfield 203, 3) := by decide +kernel
theorem dX11_clash_32 : decode cX11_clash 32 = .ok (.iload 4, 2) := by decide +kernel
theorem dX11_clash_34 : decode cX11_clash 34 = .ok (.iaload, 1) := by decide +kernel
theorem dX11_clash_35 : decode cX11_clash 35 = .ok (.istore 5, 2) := by decide +kernel
theorem dX11_clash_37 : decode cX11_clash 37 = .ok (.iload 5, 2) := by decide +kernel
theorem dX11_clash_39 : decode cX11_clash 39 = .ok (.iconst 4, 1) := by decide +kernel
theorem dX11_clash_40 : decode cX11_clash 40 = .ok (.invokestatic 86, 3) := by decide +kernel
theorem dX11_clash_43 : decode cX11_clash 43 = .ok (.ifCond .eq 54, 3) := by decide +kernel
theorem dX11_clash_46 : decode cX11_clash 46 = .ok (.aload_n 0, 1) := by decide +kernel
theorem dX11_clash_47 : decode cX11_clash 47 = .ok (.getfield 20, 3) := by decide +kernel
theorem dX11_clash_50 : decode cX11_clash 50 = .ok (.iload 5, 2) := by decide +kernel
theorem dX11_clash_52 : decode cX11_clash 52 = .ok (.aaload, 1) := by decide +kernel
theorem dX11_clash_53 : decode cX11_clash 53 = .ok (.aload_n 0, 1) := by decide +kernel
theorem dX11_clash_54 : decode cX11_clash 54 = .ok (.getfield 63, 3) := by decide +kernel
theorem dX11_clash_57 : decode cX11_clash 57 = .ok (.iload_n 3, 1) := by decide +kernel
theorem dX11_clash_58 : decode cX11_clash 58 = .ok (.aaload, 1) := by decide +kernel
theorem dX11_clash_59 : decode cX11_clash 59 = .ok (.getfield 192, 3) := by decide +kernel
theorem dX11_clash_62 : decode cX11_clash 62 = .ok (.aload_n 0, 1) := by decide +kernel
theorem dX11_clash_63 : decode cX11_clash 63 = .ok (.getfield 63, 3) := by decide +kernel
theorem dX11_clash_66 : decode cX11_clash 66 = .ok (.iload 4, 2) := by decide +kernel
theorem dX11_clash_68 : decode cX11_clash 68 = .ok (.aaload, 1) := by decide +kernel
theorem dX11_clash_69 : decode cX11_clash 69 = .ok (.getfield 192, 3) := by decide +kernel
theorem dX11_clash_72 : decode cX11_clash 72 = .ok (.invokevirtual 206, 3) := by decide +kernel
theorem dX11_clash_75 : decode cX11_clash 75 = .ok (.ifCond .ne 22, 3) := by decide +kernel
theorem dX11_clash_78 : decode cX11_clash 78 = .ok (.iload_n 2, 1) := by decide +kernel
theorem dX11_clash_79 : decode cX11_clash 79 = .ok (.ifCond .ne 13, 3) := by decide +kernel
theorem dX11_clash_82 : decode cX11_clash 82 = .ok (.iload_n 3, 1) := by decide +kernel
theorem dX11_clash_83 : decode cX11_clash 83 = .ok (.bipush 6, 2) := by decide +kernel
theorem dX11_clash_85 : decode cX11_clash 85 = .ok (.imul, 1) := by decide +kernel
theorem dX11_clash_86 : decode cX11_clash 86 = .ok (.iload 4, 2) := by decide +kernel
theorem dX11_clash_88 : decode cX11_clash 88 = .ok (.iadd, 1) := by decide +kernel
theorem dX11_clash_89 : decode cX11_clash 89 = .ok (.goto 4, 3) := by decide +kernel
theorem dX11_clash_92 : decode cX11_clash 92 = .ok (.iload_n 1, 1) := by decide +kernel
theorem dX11_clash_93 : decode cX11_clash 93 = .ok (.istore_n 1, 1) := by decide +kernel
theorem dX11_clash_94 : decode cX11_clash 94 = .ok (.iinc 2 1, 3) := by decide +kernel
theorem dX11_clash_97 : decode cX11_clash 97 = .ok (.iinc 4 1, 3) := by decide +kernel
theorem dX11_clash_100 : decode cX11_clash 100 = .ok (.goto (-84), 3) := by decide +kernel
theorem dX11_clash_103 : decode cX11_clash 103 = .ok (.iinc 3 1, 3) := by decide +kernel
theorem dX11_clash_106 : decode cX11_clash 106 = .ok (.goto (-99), 3) := by decide +kernel
theorem dX11_clash_109 : decode cX11_clash 109 = .ok (.aload_n 0, 1) := by decide +kernel
theorem dX11_clash_110 : decode cX11_clash 110 = .ok (.iload_n 1, 1) := by decide +kernel
theorem dX11_clash_111 : decode cX11_clash 111 = .ok (.putfield 72, 3) := by decide +kernel
theorem dX11_clash_114 : decode cX11_clash 114 = .ok (.iload_n 2, 1) := by decide +kernel
theorem dX11_clash_115 : decode cX11_clash 115 = .ok (.ireturn, 1) := by decide +kernel
theorem dX11_order_0 : decode cX11_order 0 = .ok (.aload_n 0, 1) := by decide +kernel
theorem dX11_order_1 : decode cX11_order 1 = .ok (.getfield 48, 3) := by decide +kernel
theorem dX11_order_4 : decode cX11_order 4 = .ok (.aload_n 0, 1) := by decide +kernel
theorem dX11_order_5 : decode cX11_order 5 = .ok (.getfield 63, 3) := by decide +kernel
theorem dX11_order_8 : decode cX11_order 8 = .ok (.aload_n 0, 1) := by decide +kernel
theorem dX11_order_9 : decode cX11_order 9 = .ok (.getfield 20, 3) := by decide +kernel
theorem dX11_order_12 : decode cX11_order 12 = .ok (.invokevirtual 209, 3) := by decide +kernel
theorem dX11_order_15 : decode cX11_order 15 = .ok (.aload_n 0, 1) := by decide +kernel
theorem dX11_order_16 : decode cX11_order 16 = .ok (.getfield 48, 3) := by decide +kernel
theorem dX11_order_19 : decode cX11_order 19 = .ok (.invokevirtual 213, 3) := by decide +kernel
theorem dX11_order_22 : decode cX11_order 22 = .ok (.ifCond .ne 6, 3) := by decide +kernel
theorem dX11_order_25 : decode cX11_order 25 = .ok (.bipush (-4), 2) := by decide +kernel
theorem dX11_order_27 : decode cX11_order 27 = .ok (.ireturn, 1) := by decide +kernel
theorem dX11_order_28 : decode cX11_order 28 = .ok (.aload_n 0, 1) := by decide +kernel
theorem dX11_order_29 : decode cX11_order 29 = .ok (.getfield 48, 3) := by decide +kernel
theorem dX11_order_32 : decode cX11_order 32 = .ok (.invokevirtual 217, 3) := by decide +kernel
theorem dX11_order_35 : decode cX11_order 35 = .ok (.aload_n 0, 1) := by decide +kernel
theorem dX11_order_36 : decode cX11_order 36 = .ok (.aload_n 0, 1) := by decide +kernel
theorem dX11_order_37 : decode cX11_order 37 = .ok (.getfield 48, 3) := by decide +kernel
theorem dX11_order_40 : decode cX11_order 40 = .ok (.getfield 220, 3) := by decide +kernel
theorem dX11_order_43 : decode cX11_order 43 = .ok (.putfield 72, 3) := by decide +kernel
theorem dX11_order_46 : decode cX11_order 46 = .ok (.aload_n 0, 1) := by decide +kernel
theorem dX11_order_47 : decode cX11_order 47 = .ok (.getfield 48, 3) := by decide +kernel
theorem dX11_order_50 : decode cX11_order 50 = .ok (.getfield 223, 3) := by decide +kernel
theorem dX11_order_53 : decode cX11_order 53 = .ok (.ireturn, 1) := by decide +kernel
theorem dX11_orderAt_0 : decode cX11_orderAt 0 = .ok (.iload_n 1, 1) := by decide +kernel
theorem dX11_orderAt_1 : decode cX11_orderAt 1 = .ok (.ifCond .ge 5, 3) := by decide +kernel
theorem dX11_orderAt_4 : decode cX11_orderAt 4 = .ok (.iconst (-1), 1) := by decide +kernel
theorem dX11_orderAt_5 : decode cX11_orderAt 5 = .ok (.ireturn, 1) := by decide +kernel
theorem dX11_orderAt_6 : decode cX11_orderAt 6 = .ok (.aload_n 0, 1) := by decide +kernel
theorem dX11_orderAt_7 : decode cX11_orderAt 7 = .ok (.getfield 48, 3) := by decide +kernel
theorem dX11_orderAt_10 : decode cX11_orderAt 10 = .ok (.aload_n 0, 1) := by decide +kernel
theorem dX11_orderAt_11 : decode cX11_orderAt 11 = .ok (.getfield 63, 3) := by decide +kernel
theorem dX11_orderAt_14 : decode cX11_orderAt 14 = .ok (.aload_n 0, 1) := by decide +kernel
theorem dX11_orderAt_15 : decode cX11_orderAt 15 = .ok (.getfield 20, 3) := by decide +kernel
theorem dX11_orderAt_18 : decode cX11_orderAt 18 = .ok (.invokevirtual 209, 3) := by decide +kernel
theorem dX11_orderAt_21 : decode cX11_orderAt 21 = .ok (.aload_n 0, 1) := by decide +kernel
theorem dX11_orderAt_22 : decode cX11_orderAt 22 = .ok (.getfield 48, 3) := by decide +kernel
theorem dX11_orderAt_25 : decode cX11_orderAt 25 = .ok (.invokevirtual 213, 3) := by decide +kernel
theorem dX11_orderAt_28 : decode cX11_orderAt 28 = .ok (.ifCond .ne 6, 3) := by decide +kernel
theorem dX11_orderAt_31 : decode cX11_orderAt 31 = .ok (.bipush (-4), 2) := by decide +kernel
theorem dX11_orderAt_33 : decode cX11_orderAt 33 = .ok (.ireturn, 1) := by decide +kernel
theorem dX11_orderAt_34 : decode cX11_orderAt 34 = .ok (.aload_n 0, 1) := by decide +kernel
theorem dX11_orderAt_35 : decode cX11_orderAt 35 = .ok (.getfield 48, 3) := by decide +kernel
theorem dX11_orderAt_38 : decode cX11_orderAt 38 = .ok (.invokevirtual 217, 3) := by decide +kernel
theorem dX11_orderAt_41 : decode cX11_orderAt 41 = .ok (.iload_n 1, 1) := by decide +kernel
theorem dX11_orderAt_42 : decode cX11_orderAt 42 = .ok (.aload_n 0, 1) := by decide +kernel
theorem dX11_orderAt_43 : decode cX11_orderAt 43 = .ok (.getfield 48, 3) := by decide +kernel
theorem dX11_orderAt_46 : decode cX11_orderAt 46 = .ok (.getfield 223, 3) := by decide +kernel
theorem dX11_orderAt_49 : decode cX11_orderAt 49 = .ok (.invokestatic 86, 3) := by decide +kernel
theorem dX11_orderAt_52 : decode cX11_orderAt 52 = .ok (.ifCond .eq 15, 3) := by decide +kernel
theorem dX11_orderAt_55 : decode cX11_orderAt 55 = .ok (.aload_n 0, 1) := by decide +kernel
theorem dX11_orderAt_56 : decode cX11_orderAt 56 = .ok (.getfield 48, 3) := by decide +kernel
theorem dX11_orderAt_59 : decode cX11_orderAt 59 = .ok (.getfield 226, 3) := by decide +kernel
theorem dX11_orderAt_62 : decode cX11_orderAt 62 = .ok (.iload_n 1, 1) := by decide +kernel
theorem dX11_orderAt_63 : decode cX11_orderAt 63 = .ok (.iaload, 1) := by decide +kernel
theorem dX11_orderAt_64 : decode cX11_orderAt 64 = .ok (.goto 5, 3) := by decide +kernel
theorem dX11_orderAt_67 : decode cX11_orderAt 67 = .ok (.bipush (-9), 2) := by decide +kernel
theorem dX11_orderAt_69 : decode cX11_orderAt 69 = .ok (.ireturn, 1) := by decide +kernel
theorem dX11_putIn_0 : decode cX11_putIn 0 = .ok (.iload_n 1, 1) := by decide +kernel
theorem dX11_putIn_1 : decode cX11_putIn 1 = .ok (.bipush 6, 2) := by decide +kernel
theorem dX11_putIn_3 : decode cX11_putIn 3 = .ok (.invokestatic 86, 3) := by decide +kernel
theorem dX11_putIn_6 : decode cX11_putIn 6 = .ok (.ifCond .ne 5, 3) := by decide +kernel
theorem dX11_putIn_9 : decode cX11_putIn 9 = .ok (.iconst (-1), 1) := by decide +kernel
theorem dX11_putIn_10 : decode cX11_putIn 10 = .ok (.ireturn, 1) := by decide +kernel
theorem dX11_putIn_11 : decode cX11_putIn 11 = .ok (.aload_n 0, 1) := by decide +kernel
theorem dX11_putIn_12 : decode cX11_putIn 12 = .ok (.getfield 48, 3) := by decide +kernel
theorem dX11_putIn_15 : decode cX11_putIn 15 = .ok (.aload_n 0, 1) := by decide +kernel
theorem dX11_putIn_16 : decode cX11_putIn 16 = .ok (.getfield 63, 3) := by decide +kernel
theorem dX11_putIn_19 : decode cX11_putIn 19 = .ok (.aload_n 0, 1) := by decide +kernel
theorem dX11_putIn_20 : decode cX11_putIn 20 = .ok (.getfield 20, 3) := by decide +kernel
theorem dX11_putIn_23 : decode cX11_putIn 23 = .ok (.invokevirtual 209, 3) := by decide +kernel
theorem dX11_putIn_26 : decode cX11_putIn 26 = .ok (.aload_n 0, 1) := by decide +kernel
theorem dX11_putIn_27 : decode cX11_putIn 27 = .ok (.getfield 48, 3) := by decide +kernel
theorem dX11_putIn_30 : decode cX11_putIn 30 = .ok (.iload_n 1, 1) := by decide +kernel
theorem dX11_putIn_31 : decode cX11_putIn 31 = .ok (.invokevirtual 229, 3) := by decide +kernel
theorem dX11_putIn_34 : decode cX11_putIn 34 = .ok (.ifCond .ne 6, 3) := by decide +kernel
theorem dX11_putIn_37 : decode cX11_putIn 37 = .ok (.bipush (-4), 2) := by decide +kernel
theorem dX11_putIn_39 : decode cX11_putIn 39 = .ok (.ireturn, 1) := by decide +kernel
theorem dX11_putIn_40 : decode cX11_putIn 40 = .ok (.aload_n 0, 1) := by decide +kernel
theorem dX11_putIn_41 : decode cX11_putIn 41 = .ok (.getfield 63, 3) := by decide +kernel
theorem dX11_putIn_44 : decode cX11_putIn 44 = .ok (.iload_n 1, 1) := by decide +kernel
theorem dX11_putIn_45 : decode cX11_putIn 45 = .ok (.aaload, 1) := by decide +kernel
theorem dX11_putIn_46 : decode cX11_putIn 46 = .ok (.aload_n 0, 1) := by decide +kernel
theorem dX11_putIn_47 : decode cX11_putIn 47 = .ok (.getfield 63, 3) := by decide +kernel
theorem dX11_putIn_50 : decode cX11_putIn 50 = .ok (.iload_n 1, 1) := by decide +kernel
theorem dX11_putIn_51 : decode cX11_putIn 51 = .ok (.aaload, 1) := by decide +kernel
theorem dX11_putIn_52 : decode cX11_putIn 52 = .ok (.getfield 197, 3) := by decide +kernel
theorem dX11_putIn_55 : decode cX11_putIn 55 = .ok (.putfield 192, 3) := by decide +kernel
theorem dX11_putIn_58 : decode cX11_putIn 58 = .ok (.iconst 1, 1) := by decide +kernel
theorem dX11_putIn_59 : decode cX11_putIn 59 = .ok (.ireturn, 1) := by decide +kernel
theorem dX11_service_0 : decode cX11_service 0 = .ok (.iload_n 1, 1) := by decide +kernel
theorem dX11_service_1 : decode cX11_service 1 = .ok (.bipush 6, 2) := by decide +kernel
theorem dX11_service_3 : decode cX11_service 3 = .ok (.invokestatic 86, 3) := by decide +kernel
theorem dX11_service_6 : decode cX11_service 6 = .ok (.ifCond .eq 13, 3) := by decide +kernel
theorem dX11_service_9 : decode cX11_service 9 = .ok (.iload_n 2, 1) := by decide +kernel
theorem dX11_service_10 : decode cX11_service 10 = .ok (.iconst 1, 1) := by decide +kernel
theorem dX11_service_11 : decode cX11_service 11 = .ok (.if_icmp .lt 8, 3) := by decide +kernel
theorem dX11_service_14 : decode cX11_service 14 = .ok (.iload_n 2, 1) := by decide +kernel
theorem dX11_service_15 : decode cX11_service 15 = .ok (.iconst 3, 1) := by decide +kernel
theorem dX11_service_16 : decode cX11_service 16 = .ok (.if_icmp .le 5, 3) := by decide +kernel
theorem dX11_service_19 : decode cX11_service 19 = .ok (.iconst (-1), 1) := by decide +kernel
theorem dX11_service_20 : decode cX11_service 20 = .ok (.ireturn, 1) := by decide +kernel
theorem dX11_service_21 : decode cX11_service 21 = .ok (.iload_n 3, 1) := by decide +kernel
theorem dX11_service_22 : decode cX11_service 22 = .ok (.ifCond .lt 21, 3) := by decide +kernel
theorem dX11_service_25 : decode cX11_service 25 = .ok (.iload_n 3, 1) := by decide +kernel
theorem dX11_service_26 : decode cX11_service 26 = .ok (.bipush 9, 2) := by decide +kernel
theorem dX11_service_28 : decode cX11_service 28 = .ok (.if_icmp .gt 15, 3) := by decide +kernel
theorem dX11_service_31 : decode cX11_service 31 = .ok (.iload 4, 2) := by decide +kernel
theorem dX11_service_33 : decode cX11_service 33 = .ok (.ifCond .lt 10, 3) := by decide +kernel
theorem dX11_service_36 : decode cX11_service 36 = .ok (.iload 4, 2) := by decide +kernel
theorem dX11_service_38 : decode cX11_service 38 = .ok (.bipush 99, 2) := by decide +kernel
theorem dX11_service_40 : decode cX11_service 40 = .ok (.if_icmp .le 5, 3) := by decide +kernel
theorem dX11_service_43 : decode cX11_service 43 = .ok (.iconst (-1), 1) := by decide +kernel
theorem dX11_service_44 : decode cX11_service 44 = .ok (.ireturn, 1) := by decide +kernel
theorem dX11_service_45 : decode cX11_service 45 = .ok (.aload_n 0, 1) := by decide +kernel
theorem dX11_service_46 : decode cX11_service 46 = .ok (.getfield 63, 3) := by decide +kernel
theorem dX11_service_49 : decode cX11_service 49 = .ok (.iload_n 1, 1) := by decide +kernel
theorem dX11_service_50 : decode cX11_service 50 = .ok (.aaload, 1) := by decide +kernel
theorem dX11_service_51 : decode cX11_service 51 = .ok (.iload_n 2, 1) := by decide +kernel
theorem dX11_service_52 : decode cX11_service 52 = .ok (.putfield 233, 3) := by decide +kernel
theorem dX11_service_55 : decode cX11_service 55 = .ok (.aload_n 0, 1) := by decide +kernel
theorem dX11_service_56 : decode cX11_service 56 = .ok (.getfield 63, 3) := by decide +kernel
theorem dX11_service_59 : decode cX11_service 59 = .ok (.iload_n 1, 1) := by decide +kernel
theorem dX11_service_60 : decode cX11_service 60 = .ok (.aaload, 1) := by decide +kernel
theorem dX11_service_61 : decode cX11_service 61 = .ok (.iload_n 3, 1) := by decide +kernel
theorem dX11_service_62 : decode cX11_service 62 = .ok (.putfield 236, 3) := by decide +kernel
theorem dX11_service_65 : decode cX11_service 65 = .ok (.aload_n 0, 1) := by decide +kernel
theorem dX11_service_66 : decode cX11_service 66 = .ok (.getfield 63, 3) := by decide +kernel
theorem dX11_service_69 : decode cX11_service 69 = .ok (.iload_n 1, 1) := by decide +kernel
theorem dX11_service_70 : decode cX11_service 70 = .ok (.aaload, 1) := by decide +kernel
theorem dX11_service_71 : decode cX11_service 71 = .ok (.iload 4, 2) := by decide +kernel
theorem dX11_service_73 : decode cX11_service 73 = .ok (.putfield 239, 3) := by decide +kernel
theorem dX11_service_76 : decode cX11_service 76 = .ok (.iconst 1, 1) := by decide +kernel
theorem dX11_service_77 : decode cX11_service 77 = .ok (.ireturn, 1) := by decide +kernel
theorem dX11_call_0 : decode cX11_call 0 = .ok (.iload_n 1, 1) := by decide +kernel
theorem dX11_call_1 : decode cX11_call 1 = .ok (.iload_n 2, 1) := by decide +kernel
theorem dX11_call_2 : decode cX11_call 2 = .ok (.invokestatic 200, 3) := by decide +kernel
theorem dX11_call_5 : decode cX11_call 5 = .ok (.ifCond .eq 24, 3) := by decide +kernel
theorem dX11_call_8 : decode cX11_call 8 = .ok (.iload_n 3, 1) := by decide +kernel
theorem dX11_call_9 : decode cX11_call 9 = .ok (.iconst 3, 1) := by decide +kernel
theorem dX11_call_10 : decode cX11_call 10 = .ok (.invokestatic 86, 3) := by decide +kernel
theorem dX11_call_13 : decode cX11_call 13 = .ok (.ifCond .eq 16, 3) := by decide +kernel
theorem dX11_call_16 : decode cX11_call 16 = .ok (.iload 4, 2) := by decide +kernel
theorem dX11_call_18 : decode cX11_call 18 = .ok (.iconst 1, 1) := by decide +kernel
theorem dX11_call_19 : decode cX11_call 19 = .ok (.if_icmp .lt 10, 3) := by decide +kernel
theorem dX11_call_22 : decode cX11_call 22 = .ok (.iload 4, 2) := by decide +kernel
theorem dX11_call_24 : decode cX11_call 24 = .ok (.bipush 9, 2) := by decide +kernel
theorem dX11_call_26 : decode cX11_call 26 = .ok (.if_icmp .le 5, 3) := by decide +kernel
theorem dX11_call_29 : decode cX11_call 29 = .ok (.iconst (-1), 1) := by decide +kernel
theorem dX11_call_30 : decode cX11_call 30 = .ok (.ireturn, 1) := by decide +kernel
theorem dX11_call_31 : decode cX11_call 31 = .ok (.iload 5, 2) := by decide +kernel
theorem dX11_call_33 : decode cX11_call 33 = .ok (.iconst 1, 1) := by decide +kernel
theorem dX11_call_34 : decode cX11_call 34 = .ok (.if_icmp .lt 21, 3) := by decide +kernel
theorem dX11_call_37 : decode cX11_call 37 = .ok (.iload 5, 2) := by decide +kernel
theorem dX11_call_39 : decode cX11_call 39 = .ok (.bipush 99, 2) := by decide +kernel
theorem dX11_call_41 : decode cX11_call 41 = .ok (.if_icmp .gt 14, 3) := by decide +kernel
theorem dX11_call_44 : decode cX11_call 44 = .ok (.iload 6, 2) := by decide +kernel
theorem dX11_call_46 : decode cX11_call 46 = .ok (.ifCond .lt 9, 3) := by decide +kernel
theorem dX11_call_49 : decode cX11_call 49 = .ok (.iload 6, 2) := by decide +kernel
theorem dX11_call_51 : decode cX11_call 51 = .ok (.iconst 5, 1) := by decide +kernel
theorem dX11_call_52 : decode cX11_call 52 = .ok (.if_icmp .le 5, 3) := by decide +kernel
theorem dX11_call_55 : decode cX11_call 55 = .ok (.iconst (-1), 1) := by decide +kernel
theorem dX11_call_56 : decode cX11_call 56 = .ok (.ireturn, 1) := by decide +kernel
theorem dX11_call_57 : decode cX11_call 57 = .ok (.aload_n 0, 1) := by decide +kernel
theorem dX11_call_58 : decode cX11_call 58 = .ok (.getfield 55, 3) := by decide +kernel
theorem dX11_call_61 : decode cX11_call 61 = .ok (.getfield 241, 3) := by decide +kernel
theorem dX11_call_64 : decode cX11_call 64 = .ok (.bipush 30, 2) := by decide +kernel
theorem dX11_call_66 : decode cX11_call 66 = .ok (.if_icmp .lt 6, 3) := by decide +kernel
theorem dX11_call_69 : decode cX11_call 69 = .ok (.bipush (-2), 2) := by decide +kernel
theorem dX11_call_71 : decode cX11_call 71 = .ok (.ireturn, 1) := by decide +kernel
theorem dX11_call_72 : decode cX11_call 72 = .ok (.aload_n 0, 1) := by decide +kernel
theorem dX11_call_73 : decode cX11_call 73 = .ok (.getfield 55, 3) := by decide +kernel
theorem dX11_call_76 : decode cX11_call 76 = .ok (.getfield 244, 3) := by decide +kernel
theorem dX11_call_79 : decode cX11_call 79 = .ok (.iload 5, 2) := by decide +kernel
theorem dX11_call_81 : decode cX11_call 81 = .ok (.iadd, 1) := by decide +kernel
theorem dX11_call_82 : decode cX11_call 82 = .ok (.sipush 9999, 3) := by decide +kernel
theorem dX11_call_85 : decode cX11_call 85 = .ok (.if_icmp .le 6, 3) := by decide +kernel
theorem dX11_call_88 : decode cX11_call 88 = .ok (.bipush (-4), 2) := by decide +kernel
theorem dX11_call_90 : decode cX11_call 90 = .ok (.ireturn, 1) := by decide +kernel
theorem dX11_call_91 : decode cX11_call 91 = .ok (.aload_n 0, 1) := by decide +kernel
theorem dX11_call_92 : decode cX11_call 92 = .ok (.getfield 55, 3) := by decide +kernel
theorem dX11_call_95 : decode cX11_call 95 = .ok (.iload_n 1, 1) := by decide +kernel
theorem dX11_call_96 : decode cX11_call 96 = .ok (.iload_n 2, 1) := by decide +kernel
theorem dX11_call_97 : decode cX11_call 97 = .ok (.iload_n 3, 1) := by decide +kernel
theorem dX11_call_98 : decode cX11_call 98 = .ok (.iload 4, 2) := by decide +kernel
theorem dX11_call_100 : decode cX11_call 100 = .ok (.iload 5, 2) := by decide +kernel
theorem dX11_call_102 : decode cX11_call 102 = .ok (.iload 6, 2) := by decide +kernel
theorem dX11_call_104 : decode cX11_call 104 = .ok (.invokevirtual 247, 3) := by decide +kernel
theorem dX11_call_107 : decode cX11_call 107 = .ok (.ireturn, 1) := by decide +kernel
theorem dX11_breaks_0 : decode cX11_breaks 0 = .ok (.iload_n 1, 1) := by decide +kernel
theorem dX11_breaks_1 : decode cX11_breaks 1 = .ok (.iload_n 2, 1) := by decide +kernel
theorem dX11_breaks_2 : decode cX11_breaks 2 = .ok (.invokestatic 200, 3) := by decide +kernel
theorem dX11_breaks_5 : decode cX11_breaks 5 = .ok (.ifCond .eq 21, 3) := by decide +kernel
theorem dX11_breaks_8 : decode cX11_breaks 8 = .ok (.iload_n 3, 1) := by decide +kernel
theorem dX11_breaks_9 : decode cX11_breaks 9 = .ok (.ifCond .lt 17, 3) := by decide +kernel
theorem dX11_breaks_12 : decode cX11_breaks 12 = .ok (.iload 4, 2) := by decide +kernel
theorem dX11_breaks_14 : decode cX11_breaks 14 = .ok (.sipush 9999, 3) := by decide +kernel
theorem dX11_breaks_17 : decode cX11_breaks 17 = .ok (.if_icmp .gt 9, 3) := by decide +kernel
theorem dX11_breaks_20 : decode cX11_breaks 20 = .ok (.iload 4, 2) := by decide +kernel
theorem dX11_breaks_22 : decode cX11_breaks 22 = .ok (.iload_n 3, 1) := by decide +kernel
theorem dX11_breaks_23 : decode cX11_breaks 23 = .ok (.if_icmp .ge 5, 3) := by decide +kernel
theorem dX11_breaks_26 : decode cX11_breaks 26 = .ok (.iconst (-1), 1) := by decide +kernel
theorem dX11_breaks_27 : decode cX11_breaks 27 = .ok (.ireturn, 1) := by decide +kernel
theorem dX11_breaks_28 : decode cX11_breaks 28 = .ok (.aload_n 0, 1) := by decide +kernel
theorem dX11_breaks_29 : decode cX11_breaks 29 = .ok (.getfield 55, 3) := by decide +kernel
theorem dX11_breaks_32 : decode cX11_breaks 32 = .ok (.getfield 251, 3) := by decide +kernel
theorem dX11_breaks_35 : decode cX11_breaks 35 = .ok (.getfield 255, 3) := by decide +kernel
theorem dX11_breaks_38 : decode cX11_breaks 38 = .ok (.bipush 20, 2) := by decide +kernel
theorem dX11_breaks_40 : decode cX11_breaks 40 = .ok (.if_icmp .lt 6, 3) := by decide +kernel
theorem dX11_breaks_43 : decode cX11_breaks 43 = .ok (.bipush (-2), 2) := by decide +kernel
theorem dX11_breaks_45 : decode cX11_breaks 45 = .ok (.ireturn, 1) := by decide +kernel
theorem dX11_breaks_46 : decode cX11_breaks 46 = .ok (.aload_n 0, 1) := by decide +kernel
theorem dX11_breaks_47 : decode cX11_breaks 47 = .ok (.getfield 55, 3) := by decide +kernel
theorem dX11_breaks_50 : decode cX11_breaks 50 = .ok (.getfield 251, 3) := by decide +kernel
theorem dX11_breaks_53 : decode cX11_breaks 53 = .ok (.iload_n 1, 1) := by decide +kernel
theorem dX11_breaks_54 : decode cX11_breaks 54 = .ok (.iload_n 2, 1) := by decide +kernel
theorem dX11_breaks_55 : decode cX11_breaks 55 = .ok (.iload_n 3, 1) := by decide +kernel
theorem dX11_breaks_56 : decode cX11_breaks 56 = .ok (.iload 4, 2) := by decide +kernel
theorem dX11_breaks_58 : decode cX11_breaks 58 = .ok (.invokevirtual 258, 3) := by decide +kernel
theorem dX11_breaks_61 : decode cX11_breaks 61 = .ok (.aload_n 0, 1) := by decide +kernel
theorem dX11_breaks_62 : decode cX11_breaks 62 = .ok (.getfield 55, 3) := by decide +kernel
theorem dX11_breaks_65 : decode cX11_breaks 65 = .ok (.getfield 251, 3) := by decide +kernel
theorem dX11_breaks_68 : decode cX11_breaks 68 = .ok (.getfield 255, 3) := by decide +kernel
theorem dX11_breaks_71 : decode cX11_breaks 71 = .ok (.ireturn, 1) := by decide +kernel
theorem dX11_ping_0 : decode cX11_ping 0 = .ok (.iload_n 1, 1) := by decide +kernel
theorem dX11_ping_1 : decode cX11_ping 1 = .ok (.iload_n 2, 1) := by decide +kernel
theorem dX11_ping_2 : decode cX11_ping 2 = .ok (.invokestatic 200, 3) := by decide +kernel
theorem dX11_ping_5 : decode cX11_ping 5 = .ok (.ifCond .ne 5, 3) := by decide +kernel
theorem dX11_ping_8 : decode cX11_ping 8 = .ok (.iconst (-1), 1) := by decide +kernel
theorem dX11_ping_9 : decode cX11_ping 9 = .ok (.ireturn, 1) := by decide +kernel
theorem dX11_ping_10 : decode cX11_ping 10 = .ok (.aload_n 0, 1) := by decide +kernel
theorem dX11_ping_11 : decode cX11_ping 11 = .ok (.getfield 55, 3) := by decide +kernel
theorem dX11_ping_14 : decode cX11_ping 14 = .ok (.getfield 262, 3) := by decide +kernel
theorem dX11_ping_17 : decode cX11_ping 17 = .ok (.bipush 100, 2) := by decide +kernel
theorem dX11_ping_19 : decode cX11_ping 19 = .ok (.if_icmp .lt 6, 3) := by decide +kernel
theorem dX11_ping_22 : decode cX11_ping 22 = .ok (.bipush (-2), 2) := by decide +kernel
theorem dX11_ping_24 : decode cX11_ping 24 = .ok (.ireturn, 1) := by decide +kernel
theorem dX11_ping_25 : decode cX11_ping 25 = .ok (.aload_n 0, 1) := by decide +kernel
theorem dX11_ping_26 : decode cX11_ping 26 = .ok (.getfield 55, 3) := by decide +kernel
theorem dX11_ping_29 : decode cX11_ping 29 = .ok (.dup, 1) := by decide +kernel
theorem dX11_ping_30 : decode cX11_ping 30 = .ok (.getfield 262, 3) := by decide +kernel
theorem dX11_ping_33 : decode cX11_ping 33 = .ok (.iconst 1, 1) := by decide +kernel
theorem dX11_ping_34 : decode cX11_ping 34 = .ok (.iadd, 1) := by decide +kernel
theorem dX11_ping_35 : decode cX11_ping 35 = .ok (.putfield 262, 3) := by decide +kernel
theorem dX11_ping_38 : decode cX11_ping 38 = .ok (.aload_n 0, 1) := by decide +kernel
theorem dX11_ping_39 : decode cX11_ping 39 = .ok (.getfield 55, 3) := by decide +kernel
theorem dX11_ping_42 : decode cX11_ping 42 = .ok (.getfield 265, 3) := by decide +kernel
theorem dX11_ping_45 : decode cX11_ping 45 = .ok (.iconst 0, 1) := by decide +kernel
theorem dX11_ping_46 : decode cX11_ping 46 = .ok (.iload_n 1, 1) := by decide +kernel
theorem dX11_ping_47 : decode cX11_ping 47 = .ok (.iload_n 2, 1) := by decide +kernel
theorem dX11_ping_48 : decode cX11_ping 48 = .ok (.aload_n 0, 1) := by decide +kernel
theorem dX11_ping_49 : decode cX11_ping 49 = .ok (.getfield 55, 3) := by decide +kernel
theorem dX11_ping_52 : decode cX11_ping 52 = .ok (.getfield 244, 3) := by decide +kernel
theorem dX11_ping_55 : decode cX11_ping 55 = .ok (.bipush (-9), 2) := by decide +kernel
theorem dX11_ping_57 : decode cX11_ping 57 = .ok (.iconst 0, 1) := by decide +kernel
theorem dX11_ping_58 : decode cX11_ping 58 = .ok (.invokevirtual 269, 3) := by decide +kernel
theorem dX11_ping_61 : decode cX11_ping 61 = .ok (.ireturn, 1) := by decide +kernel
theorem dX11_tick_0 : decode cX11_tick 0 = .ok (.aload_n 0, 1) := by decide +kernel
theorem dX11_tick_1 : decode cX11_tick 1 = .ok (.getfield 55, 3) := by decide +kernel
theorem dX11_tick_4 : decode cX11_tick 4 = .ok (.getfield 244, 3) := by decide +kernel
theorem dX11_tick_7 : decode cX11_tick 7 = .ok (.sipush 9999, 3) := by decide +kernel
theorem dX11_tick_10 : decode cX11_tick 10 = .ok (.if_icmp .lt 8, 3) := by decide +kernel
theorem dX11_tick_13 : decode cX11_tick 13 = .ok (.bipush (-4), 2) := by decide +kernel
theorem dX11_tick_15 : decode cX11_tick 15 = .ok (.goto 10, 3) := by decide +kernel
theorem dX11_tick_18 : decode cX11_tick 18 = .ok (.aload_n 0, 1) := by decide +kernel
theorem dX11_tick_19 : decode cX11_tick 19 = .ok (.getfield 55, 3) := by decide +kernel
theorem dX11_tick_22 : decode cX11_tick 22 = .ok (.invokevirtual 274, 3) := by decide +kernel
theorem dX11_tick_25 : decode cX11_tick 25 = .ok (.ireturn, 1) := by decide +kernel
theorem dX11_run_0 : decode cX11_run 0 = .ok (.iload_n 1, 1) := by decide +kernel
theorem dX11_run_1 : decode cX11_run 1 = .ok (.ifCond .lt 9, 3) := by decide +kernel
theorem dX11_run_4 : decode cX11_run 4 = .ok (.iload_n 1, 1) := by decide +kernel
theorem dX11_run_5 : decode cX11_run 5 = .ok (.bipush 100, 2) := by decide +kernel
theorem dX11_run_7 : decode cX11_run 7 = .ok (.if_icmp .le 5, 3) := by decide +kernel
theorem dX11_run_10 : decode cX11_run 10 = .ok (.iconst (-1), 1) := by decide +kernel
theorem dX11_run_11 : decode cX11_run 11 = .ok (.ireturn, 1) := by decide +kernel
theorem dX11_run_12 : decode cX11_run 12 = .ok (.aload_n 0, 1) := by decide +kernel
theorem dX11_run_13 : decode cX11_run 13 = .ok (.getfield 55, 3) := by decide +kernel
theorem dX11_run_16 : decode cX11_run 16 = .ok (.getfield 244, 3) := by decide +kernel
theorem dX11_run_19 : decode cX11_run 19 = .ok (.iload_n 1, 1) := by decide +kernel
theorem dX11_run_20 : decode cX11_run 20 = .ok (.iadd, 1) := by decide +kernel
theorem dX11_run_21 : decode cX11_run 21 = .ok (.sipush 9999, 3) := by decide +kernel
theorem dX11_run_24 : decode cX11_run 24 = .ok (.if_icmp .le 6, 3) := by decide +kernel
theorem dX11_run_27 : decode cX11_run 27 = .ok (.bipush (-4), 2) := by decide +kernel
theorem dX11_run_29 : decode cX11_run 29 = .ok (.ireturn, 1) := by decide +kernel
theorem dX11_run_30 : decode cX11_run 30 = .ok (.iconst 0, 1) := by decide +kernel
theorem dX11_run_31 : decode cX11_run 31 = .ok (.istore_n 2, 1) := by decide +kernel
theorem dX11_run_32 : decode cX11_run 32 = .ok (.iconst 0, 1) := by decide +kernel
theorem dX11_run_33 : decode cX11_run 33 = .ok (.istore_n 3, 1) := by decide +kernel
theorem dX11_run_34 : decode cX11_run 34 = .ok (.iload_n 3, 1) := by decide +kernel
theorem dX11_run_35 : decode cX11_run 35 = .ok (.iload_n 1, 1) := by decide +kernel
theorem dX11_run_36 : decode cX11_run 36 = .ok (.if_icmp .ge 19, 3) := by decide +kernel
theorem dX11_run_39 : decode cX11_run 39 = .ok (.iload_n 2, 1) := by decide +kernel
theorem dX11_run_40 : decode cX11_run 40 = .ok (.aload_n 0, 1) := by decide +kernel
theorem dX11_run_41 : decode cX11_run 41 = .ok (.getfield 55, 3) := by decide +kernel
theorem dX11_run_44 : decode cX11_run 44 = .ok (.invokevirtual 274, 3) := by decide +kernel
theorem dX11_run_47 : decode cX11_run 47 = .ok (.iadd, 1) := by decide +kernel
theorem dX11_run_48 : decode cX11_run 48 = .ok (.istore_n 2, 1) := by decide +kernel
theorem dX11_run_49 : decode cX11_run 49 = .ok (.iinc 3 1, 3) := by decide +kernel
theorem dX11_run_52 : decode cX11_run 52 = .ok (.goto (-18), 3) := by decide +kernel
theorem dX11_run_55 : decode cX11_run 55 = .ok (.iload_n 2, 1) := by decide +kernel
theorem dX11_run_56 : decode cX11_run 56 = .ok (.ireturn, 1) := by decide +kernel
theorem dX11_cancel_0 : decode cX11_cancel 0 = .ok (.iload_n 1, 1) := by decide +kernel
theorem dX11_cancel_1 : decode cX11_cancel 1 = .ok (.aload_n 0, 1) := by decide +kernel
theorem dX11_cancel_2 : decode cX11_cancel 2 = .ok (.getfield 55, 3) := by decide +kernel
theorem dX11_cancel_5 : decode cX11_cancel 5 = .ok (.getfield 241, 3) := by decide +kernel
theorem dX11_cancel_8 : decode cX11_cancel 8 = .ok (.invokestatic 86, 3) := by decide +kernel
theorem dX11_cancel_11 : decode cX11_cancel 11 = .ok (.ifCond .ne 5, 3) := by decide +kernel
theorem dX11_cancel_14 : decode cX11_cancel 14 = .ok (.iconst (-1), 1) := by decide +kernel
theorem dX11_cancel_15 : decode cX11_cancel 15 = .ok (.ireturn, 1) := by decide +kernel
theorem dX11_cancel_16 : decode cX11_cancel 16 = .ok (.aload_n 0, 1) := by decide +kernel
theorem dX11_cancel_17 : decode cX11_cancel 17 = .ok (.getfield 55, 3) := by decide +kernel
theorem dX11_cancel_20 : decode cX11_cancel 20 = .ok (.getfield 278, 3) := by decide +kernel
theorem dX11_cancel_23 : decode cX11_cancel 23 = .ok (.iload_n 1, 1) := by decide +kernel
theorem dX11_cancel_24 : decode cX11_cancel 24 = .ok (.aaload, 1) := by decide +kernel
theorem dX11_cancel_25 : decode cX11_cancel 25 = .ok (.getfield 282, 3) := by decide +kernel
theorem dX11_cancel_28 : decode cX11_cancel 28 = .ok (.ifCond .eq 6, 3) := by decide +kernel
theorem dX11_cancel_31 : decode cX11_cancel 31 = .ok (.bipush (-4), 2) := by decide +kernel
theorem dX11_cancel_33 : decode cX11_cancel 33 = .ok (.ireturn, 1) := by decide +kernel
theorem dX11_cancel_34 : decode cX11_cancel 34 = .ok (.aload_n 0, 1) := by decide +kernel
theorem dX11_cancel_35 : decode cX11_cancel 35 = .ok (.getfield 55, 3) := by decide +kernel
theorem dX11_cancel_38 : decode cX11_cancel 38 = .ok (.iload_n 1, 1) := by decide +kernel
theorem dX11_cancel_39 : decode cX11_cancel 39 = .ok (.iconst 5, 1) := by decide +kernel
theorem dX11_cancel_40 : decode cX11_cancel 40 = .ok (.invokevirtual 287, 3) := by decide +kernel
theorem dX11_cancel_43 : decode cX11_cancel 43 = .ok (.iconst 1, 1) := by decide +kernel
theorem dX11_cancel_44 : decode cX11_cancel 44 = .ok (.ireturn, 1) := by decide +kernel
theorem dX11_told_0 : decode cX11_told 0 = .ok (.iload_n 1, 1) := by decide +kernel
theorem dX11_told_1 : decode cX11_told 1 = .ok (.aload_n 0, 1) := by decide +kernel
theorem dX11_told_2 : decode cX11_told 2 = .ok (.getfield 55, 3) := by decide +kernel
theorem dX11_told_5 : decode cX11_told 5 = .ok (.getfield 241, 3) := by decide +kernel
theorem dX11_told_8 : decode cX11_told 8 = .ok (.invokestatic 86, 3) := by decide +kernel
theorem dX11_told_11 : decode cX11_told 11 = .ok (.ifCond .eq 12, 3) := by decide +kernel
theorem dX11_told_14 : decode cX11_told 14 = .ok (.iload_n 2, 1) := by decide +kernel
theorem dX11_told_15 : decode cX11_told 15 = .ok (.bipush 7, 2) := by decide +kernel
theorem dX11_told_17 : decode cX11_told 17 = .ok (.invokestatic 86, 3) := by decide +kernel
theorem dX11_told_20 : decode cX11_told 20 = .ok (.ifCond .ne 5, 3) := by decide +kernel
theorem dX11_told_23 : decode cX11_told 23 = .ok (.iconst (-1), 1) := by decide +kernel
theorem dX11_told_24 : decode cX11_told 24 = .ok (.ireturn, 1) := by decide +kernel
theorem dX11_told_25 : decode cX11_told 25 = .ok (.aload_n 0, 1) := by decide +kernel
theorem dX11_told_26 : decode cX11_told 26 = .ok (.aload_n 0, 1) := by decide +kernel
theorem dX11_told_27 : decode cX11_told 27 = .ok (.getfield 55, 3) := by decide +kernel
theorem dX11_told_30 : decode cX11_told 30 = .ok (.getfield 278, 3) := by decide +kernel
theorem dX11_told_33 : decode cX11_told 33 = .ok (.iload_n 1, 1) := by decide +kernel
theorem dX11_told_34 : decode cX11_told 34 = .ok (.aaload, 1) := by decide +kernel
theorem dX11_told_35 : decode cX11_told 35 = .ok (.iload_n 2, 1) := by decide +kernel
theorem dX11_told_36 : decode cX11_told 36 = .ok (.invokevirtual 290, 3) := by decide +kernel
theorem dX11_told_39 : decode cX11_told 39 = .ok (.putfield 72, 3) := by decide +kernel
theorem dX11_told_42 : decode cX11_told 42 = .ok (.iconst 1, 1) := by decide +kernel
theorem dX11_told_43 : decode cX11_told 43 = .ok (.ireturn, 1) := by decide +kernel
theorem dX11_where_0 : decode cX11_where 0 = .ok (.iload_n 1, 1) := by decide +kernel
theorem dX11_where_1 : decode cX11_where 1 = .ok (.aload_n 0, 1) := by decide +kernel
theorem dX11_where_2 : decode cX11_where 2 = .ok (.getfield 55, 3) := by decide +kernel
theorem dX11_where_5 : decode cX11_where 5 = .ok (.getfield 241, 3) := by decide +kernel
theorem dX11_where_8 : decode cX11_where 8 = .ok (.invokestatic 86, 3) := by decide +kernel
theorem dX11_where_11 : decode cX11_where 11 = .ok (.ifCond .eq 11, 3) := by decide +kernel
theorem dX11_where_14 : decode cX11_where 14 = .ok (.iload_n 2, 1) := by decide +kernel
theorem dX11_where_15 : decode cX11_where 15 = .ok (.iconst 4, 1) := by decide +kernel
theorem dX11_where_16 : decode cX11_where 16 = .ok (.invokestatic 86, 3) := by decide +kernel
theorem dX11_where_19 : decode cX11_where 19 = .ok (.ifCond .ne 5, 3) := by decide +kernel
theorem dX11_where_22 : decode cX11_where 22 = .ok (.iconst (-1), 1) := by decide +kernel
theorem dX11_where_23 : decode cX11_where 23 = .ok (.ireturn, 1) := by decide +kernel
theorem dX11_where_24 : decode cX11_where 24 = .ok (.aload_n 0, 1) := by decide +kernel
theorem dX11_where_25 : decode cX11_where 25 = .ok (.getfield 55, 3) := by decide +kernel
theorem dX11_where_28 : decode cX11_where 28 = .ok (.getfield 278, 3) := by decide +kernel
theorem dX11_where_31 : decode cX11_where 31 = .ok (.iload_n 1, 1) := by decide +kernel
theorem dX11_where_32 : decode cX11_where 32 = .ok (.aaload, 1) := by decide +kernel
theorem dX11_where_33 : decode cX11_where 33 = .ok (.getfield 292, 3) := by decide +kernel
theorem dX11_where_36 : decode cX11_where 36 = .ok (.iload_n 2, 1) := by decide +kernel
theorem dX11_where_37 : decode cX11_where 37 = .ok (.iaload, 1) := by decide +kernel
theorem dX11_where_38 : decode cX11_where 38 = .ok (.ireturn, 1) := by decide +kernel
theorem dX11_queue_0 : decode cX11_queue 0 = .ok (.iload_n 1, 1) := by decide +kernel
theorem dX11_queue_1 : decode cX11_queue 1 = .ok (.bipush 6, 2) := by decide +kernel
theorem dX11_queue_3 : decode cX11_queue 3 = .ok (.invokestatic 86, 3) := by decide +kernel
theorem dX11_queue_6 : decode cX11_queue 6 = .ok (.ifCond .ne 5, 3) := by decide +kernel
theorem dX11_queue_9 : decode cX11_queue 9 = .ok (.iconst (-1), 1) := by decide +kernel
theorem dX11_queue_10 : decode cX11_queue 10 = .ok (.ireturn, 1) := by decide +kernel
theorem dX11_queue_11 : decode cX11_queue 11 = .ok (.aload_n 0, 1) := by decide +kernel
theorem dX11_queue_12 : decode cX11_queue 12 = .ok (.aload_n 0, 1) := by decide +kernel
theorem dX11_queue_13 : decode cX11_queue 13 = .ok (.getfield 63, 3) := by decide +kernel
theorem dX11_queue_16 : decode cX11_queue 16 = .ok (.iload_n 1, 1) := by decide +kernel
theorem dX11_queue_17 : decode cX11_queue 17 = .ok (.aaload, 1) := by decide +kernel
theorem dX11_queue_18 : decode cX11_queue 18 = .ok (.getfield 295, 3) := by decide +kernel
theorem dX11_queue_21 : decode cX11_queue 21 = .ok (.putfield 72, 3) := by decide +kernel
theorem dX11_queue_24 : decode cX11_queue 24 = .ok (.aload_n 0, 1) := by decide +kernel
theorem dX11_queue_25 : decode cX11_queue 25 = .ok (.getfield 63, 3) := by decide +kernel
theorem dX11_queue_28 : decode cX11_queue 28 = .ok (.iload_n 1, 1) := by decide +kernel
theorem dX11_queue_29 : decode cX11_queue 29 = .ok (.aaload, 1) := by decide +kernel
theorem dX11_queue_30 : decode cX11_queue 30 = .ok (.getfield 298, 3) := by decide +kernel
theorem dX11_queue_33 : decode cX11_queue 33 = .ok (.ireturn, 1) := by decide +kernel
theorem dX11_kept_0 : decode cX11_kept 0 = .ok (.iload_n 1, 1) := by decide +kernel
theorem dX11_kept_1 : decode cX11_kept 1 = .ok (.bipush 6, 2) := by decide +kernel
theorem dX11_kept_3 : decode cX11_kept 3 = .ok (.invokestatic 86, 3) := by decide +kernel
theorem dX11_kept_6 : decode cX11_kept 6 = .ok (.ifCond .eq 14, 3) := by decide +kernel
theorem dX11_kept_9 : decode cX11_kept 9 = .ok (.aload_n 0, 1) := by decide +kernel
theorem dX11_kept_10 : decode cX11_kept 10 = .ok (.getfield 55, 3) := by decide +kernel
theorem dX11_kept_13 : decode cX11_kept 13 = .ok (.iload_n 1, 1) := by decide +kernel
theorem dX11_kept_14 : decode cX11_kept 14 = .ok (.invokevirtual 301, 3) := by decide +kernel
theorem dX11_kept_17 : decode cX11_kept 17 = .ok (.goto 4, 3) := by decide +kernel
theorem dX11_kept_20 : decode cX11_kept 20 = .ok (.iconst (-1), 1) := by decide +kernel
theorem dX11_kept_21 : decode cX11_kept 21 = .ok (.ireturn, 1) := by decide +kernel
theorem dX11_frame_0 : decode cX11_frame 0 = .ok (.iload_n 1, 1) := by decide +kernel
theorem dX11_frame_1 : decode cX11_frame 1 = .ok (.aload_n 0, 1) := by decide +kernel
theorem dX11_frame_2 : decode cX11_frame 2 = .ok (.getfield 55, 3) := by decide +kernel
theorem dX11_frame_5 : decode cX11_frame 5 = .ok (.getfield 265, 3) := by decide +kernel
theorem dX11_frame_8 : decode cX11_frame 8 = .ok (.getfield 304, 3) := by decide +kernel
theorem dX11_frame_11 : decode cX11_frame 11 = .ok (.invokestatic 86, 3) := by decide +kernel
theorem dX11_frame_14 : decode cX11_frame 14 = .ok (.ifCond .eq 11, 3) := by decide +kernel
theorem dX11_frame_17 : decode cX11_frame 17 = .ok (.iload_n 2, 1) := by decide +kernel
theorem dX11_frame_18 : decode cX11_frame 18 = .ok (.iconst 5, 1) := by decide +kernel
theorem dX11_frame_19 : decode cX11_frame 19 = .ok (.invokestatic 86, 3) := by decide +kernel
theorem dX11_frame_22 : decode cX11_frame 22 = .ok (.ifCond .ne 5, 3) := by decide +kernel
theorem dX11_frame_25 : decode cX11_frame 25 = .ok (.iconst (-1), 1) := by decide +kernel
theorem dX11_frame_26 : decode cX11_frame 26 = .ok (.ireturn, 1) := by decide +kernel
theorem dX11_frame_27 : decode cX11_frame 27 = .ok (.aload_n 0, 1) := by decide +kernel
theorem dX11_frame_28 : decode cX11_frame 28 = .ok (.aload_n 0, 1) := by decide +kernel
theorem dX11_frame_29 : decode cX11_frame 29 = .ok (.getfield 55, 3) := by decide +kernel
theorem dX11_frame_32 : decode cX11_frame 32 = .ok (.getfield 265, 3) := by decide +kernel
theorem dX11_frame_35 : decode cX11_frame 35 = .ok (.iload_n 1, 1) := by decide +kernel
theorem dX11_frame_36 : decode cX11_frame 36 = .ok (.iload_n 2, 1) := by decide +kernel
theorem dX11_frame_37 : decode cX11_frame 37 = .ok (.invokevirtual 305, 3) := by decide +kernel
theorem dX11_frame_40 : decode cX11_frame 40 = .ok (.putfield 72, 3) := by decide +kernel
theorem dX11_frame_43 : decode cX11_frame 43 = .ok (.iconst 1, 1) := by decide +kernel
theorem dX11_frame_44 : decode cX11_frame 44 = .ok (.ireturn, 1) := by decide +kernel
theorem dX11_mark_0 : decode cX11_mark 0 = .ok (.iload_n 1, 1) := by decide +kernel
theorem dX11_mark_1 : decode cX11_mark 1 = .ok (.aload_n 0, 1) := by decide +kernel
theorem dX11_mark_2 : decode cX11_mark 2 = .ok (.getfield 55, 3) := by decide +kernel
theorem dX11_mark_5 : decode cX11_mark 5 = .ok (.getfield 265, 3) := by decide +kernel
theorem dX11_mark_8 : decode cX11_mark 8 = .ok (.getfield 304, 3) := by decide +kernel
theorem dX11_mark_11 : decode cX11_mark 11 = .ok (.invokestatic 86, 3) := by decide +kernel
theorem dX11_mark_14 : decode cX11_mark 14 = .ok (.ifCond .eq 14, 3) := by decide +kernel
theorem dX11_mark_17 : decode cX11_mark 17 = .ok (.iload_n 2, 1) := by decide +kernel
theorem dX11_mark_18 : decode cX11_mark 18 = .ok (.iconst 1, 1) := by decide +kernel
theorem dX11_mark_19 : decode cX11_mark 19 = .ok (.if_icmp .lt 9, 3) := by decide +kernel
theorem dX11_mark_22 : decode cX11_mark 22 = .ok (.iload_n 2, 1) := by decide +kernel
theorem dX11_mark_23 : decode cX11_mark 23 = .ok (.bipush 6, 2) := by decide +kernel
theorem dX11_mark_25 : decode cX11_mark 25 = .ok (.if_icmp .le 5, 3) := by decide +kernel
theorem dX11_mark_28 : decode cX11_mark 28 = .ok (.iconst (-1), 1) := by decide +kernel
theorem dX11_mark_29 : decode cX11_mark 29 = .ok (.ireturn, 1) := by decide +kernel
theorem dX11_mark_30 : decode cX11_mark 30 = .ok (.aload_n 0, 1) := by decide +kernel
theorem dX11_mark_31 : decode cX11_mark 31 = .ok (.getfield 55, 3) := by decide +kernel
theorem dX11_mark_34 : decode cX11_mark 34 = .ok (.getfield 265, 3) := by decide +kernel
theorem dX11_mark_37 : decode cX11_mark 37 = .ok (.iload_n 1, 1) := by decide +kernel
theorem dX11_mark_38 : decode cX11_mark 38 = .ok (.iload_n 2, 1) := by decide +kernel
theorem dX11_mark_39 : decode cX11_mark 39 = .ok (.invokevirtual 306, 3) := by decide +kernel
theorem dX11_mark_42 : decode cX11_mark 42 = .ok (.ifCond .eq 18, 3) := by decide +kernel
theorem dX11_mark_45 : decode cX11_mark 45 = .ok (.aload_n 0, 1) := by decide +kernel
theorem dX11_mark_46 : decode cX11_mark 46 = .ok (.getfield 55, 3) := by decide +kernel
theorem dX11_mark_49 : decode cX11_mark 49 = .ok (.getfield 265, 3) := by decide +kernel
theorem dX11_mark_52 : decode cX11_mark 52 = .ok (.iload_n 1, 1) := by decide +kernel
theorem dX11_mark_53 : decode cX11_mark 53 = .ok (.iload_n 2, 1) := by decide +kernel
theorem dX11_mark_54 : decode cX11_mark 54 = .ok (.invokevirtual 309, 3) := by decide +kernel
theorem dX11_mark_57 : decode cX11_mark 57 = .ok (.goto 8, 3) := by decide +kernel
theorem dX11_mark_60 : decode cX11_mark 60 = .ok (.aload_n 0, 1) := by decide +kernel
theorem dX11_mark_61 : decode cX11_mark 61 = .ok (.iconst 3, 1) := by decide +kernel
theorem dX11_mark_62 : decode cX11_mark 62 = .ok (.invokevirtual 90, 3) := by decide +kernel
theorem dX11_mark_65 : decode cX11_mark 65 = .ok (.ireturn, 1) := by decide +kernel
theorem dX11_credit_0 : decode cX11_credit 0 = .ok (.iload_n 1, 1) := by decide +kernel
theorem dX11_credit_1 : decode cX11_credit 1 = .ok (.aload_n 0, 1) := by decide +kernel
theorem dX11_credit_2 : decode cX11_credit 2 = .ok (.getfield 55, 3) := by decide +kernel
theorem dX11_credit_5 : decode cX11_credit 5 = .ok (.getfield 241, 3) := by decide +kernel
theorem dX11_credit_8 : decode cX11_credit 8 = .ok (.invokestatic 86, 3) := by decide +kernel
theorem dX11_credit_11 : decode cX11_credit 11 = .ok (.ifCond .eq 14, 3) := by decide +kernel
theorem dX11_credit_14 : decode cX11_credit 14 = .ok (.iload_n 2, 1) := by decide +kernel
theorem dX11_credit_15 : decode cX11_credit 15 = .ok (.iconst 1, 1) := by decide +kernel
theorem dX11_credit_16 : decode cX11_credit 16 = .ok (.if_icmp .lt 9, 3) := by decide +kernel
theorem dX11_credit_19 : decode cX11_credit 19 = .ok (.iload_n 2, 1) := by decide +kernel
theorem dX11_credit_20 : decode cX11_credit 20 = .ok (.bipush 9, 2) := by decide +kernel
theorem dX11_credit_22 : decode cX11_credit 22 = .ok (.if_icmp .le 5, 3) := by decide +kernel
theorem dX11_credit_25 : decode cX11_credit 25 = .ok (.iconst (-1), 1) := by decide +kernel
theorem dX11_credit_26 : decode cX11_credit 26 = .ok (.ireturn, 1) := by decide +kernel
theorem dX11_credit_27 : decode cX11_credit 27 = .ok (.aload_n 0, 1) := by decide +kernel
theorem dX11_credit_28 : decode cX11_credit 28 = .ok (.getfield 55, 3) := by decide +kernel
theorem dX11_credit_31 : decode cX11_credit 31 = .ok (.getfield 312, 3) := by decide +kernel
theorem dX11_credit_34 : decode cX11_credit 34 = .ok (.sipush 200, 3) := by decide +kernel
theorem dX11_credit_37 : decode cX11_credit 37 = .ok (.if_icmp .lt 6, 3) := by decide +kernel
theorem dX11_credit_40 : decode cX11_credit 40 = .ok (.bipush (-2), 2) := by decide +kernel
theorem dX11_credit_42 : decode cX11_credit 42 = .ok (.ireturn, 1) := by decide +kernel
theorem dX11_credit_43 : decode cX11_credit 43 = .ok (.aload_n 0, 1) := by decide +kernel
theorem dX11_credit_44 : decode cX11_credit 44 = .ok (.getfield 55, 3) := by decide +kernel
theorem dX11_credit_47 : decode cX11_credit 47 = .ok (.getfield 278, 3) := by decide +kernel
theorem dX11_credit_50 : decode cX11_credit 50 = .ok (.iload_n 1, 1) := by decide +kernel
theorem dX11_credit_51 : decode cX11_credit 51 = .ok (.aaload, 1) := by decide +kernel
theorem dX11_credit_52 : decode cX11_credit 52 = .ok (.getfield 282, 3) := by decide +kernel
theorem dX11_credit_55 : decode cX11_credit 55 = .ok (.iconst 3, 1) := by decide +kernel
theorem dX11_credit_56 : decode cX11_credit 56 = .ok (.if_icmp .eq 6, 3) := by decide +kernel
theorem dX11_credit_59 : decode cX11_credit 59 = .ok (.bipush (-4), 2) := by decide +kernel
theorem dX11_credit_61 : decode cX11_credit 61 = .ok (.ireturn, 1) := by decide +kernel
theorem dX11_credit_62 : decode cX11_credit 62 = .ok (.aload_n 0, 1) := by decide +kernel
theorem dX11_credit_63 : decode cX11_credit 63 = .ok (.getfield 55, 3) := by decide +kernel
theorem dX11_credit_66 : decode cX11_credit 66 = .ok (.dup, 1) := by decide +kernel
theorem dX11_credit_67 : decode cX11_credit 67 = .ok (.getfield 312, 3) := by decide +kernel
theorem dX11_credit_70 : decode cX11_credit 70 = .ok (.iconst 1, 1) := by decide +kernel
theorem dX11_credit_71 : decode cX11_credit 71 = .ok (.iadd, 1) := by decide +kernel
theorem dX11_credit_72 : decode cX11_credit 72 = .ok (.putfield 312, 3) := by decide +kernel
theorem dX11_credit_75 : decode cX11_credit 75 = .ok (.aload_n 0, 1) := by decide +kernel
theorem dX11_credit_76 : decode cX11_credit 76 = .ok (.getfield 55, 3) := by decide +kernel
theorem dX11_credit_79 : decode cX11_credit 79 = .ok (.iconst 5, 1) := by decide +kernel
theorem dX11_credit_80 : decode cX11_credit 80 = .ok (.iload_n 1, 1) := by decide +kernel
theorem dX11_credit_81 : decode cX11_credit 81 = .ok (.iload_n 2, 1) := by decide +kernel
theorem dX11_credit_82 : decode cX11_credit 82 = .ok (.invokevirtual 315, 3) := by decide +kernel
theorem dX11_credit_85 : decode cX11_credit 85 = .ok (.ireturn, 1) := by decide +kernel
theorem dX11_piece_0 : decode cX11_piece 0 = .ok (.iload_n 1, 1) := by decide +kernel
theorem dX11_piece_1 : decode cX11_piece 1 = .ok (.aload_n 0, 1) := by decide +kernel
theorem dX11_piece_2 : decode cX11_piece 2 = .ok (.getfield 55, 3) := by decide +kernel
theorem dX11_piece_5 : decode cX11_piece 5 = .ok (.getfield 241, 3) := by decide +kernel
theorem dX11_piece_8 : decode cX11_piece 8 = .ok (.invokestatic 86, 3) := by decide +kernel
theorem dX11_piece_11 : decode cX11_piece 11 = .ok (.ifCond .ne 5, 3) := by decide +kernel
theorem dX11_piece_14 : decode cX11_piece 14 = .ok (.iconst (-1), 1) := by decide +kernel
theorem dX11_piece_15 : decode cX11_piece 15 = .ok (.ireturn, 1) := by decide +kernel
theorem dX11_piece_16 : decode cX11_piece 16 = .ok (.aload_n 0, 1) := by decide +kernel
theorem dX11_piece_17 : decode cX11_piece 17 = .ok (.getfield 55, 3) := by decide +kernel
theorem dX11_piece_20 : decode cX11_piece 20 = .ok (.getfield 312, 3) := by decide +kernel
theorem dX11_piece_23 : decode cX11_piece 23 = .ok (.sipush 200, 3) := by decide +kernel
theorem dX11_piece_26 : decode cX11_piece 26 = .ok (.if_icmp .lt 6, 3) := by decide +kernel
theorem dX11_piece_29 : decode cX11_piece 29 = .ok (.bipush (-2), 2) := by decide +kernel
theorem dX11_piece_31 : decode cX11_piece 31 = .ok (.ireturn, 1) := by decide +kernel
theorem dX11_piece_32 : decode cX11_piece 32 = .ok (.aload_n 0, 1) := by decide +kernel
theorem dX11_piece_33 : decode cX11_piece 33 = .ok (.getfield 55, 3) := by decide +kernel
theorem dX11_piece_36 : decode cX11_piece 36 = .ok (.getfield 278, 3) := by decide +kernel
theorem dX11_piece_39 : decode cX11_piece 39 = .ok (.iload_n 1, 1) := by decide +kernel
theorem dX11_piece_40 : decode cX11_piece 40 = .ok (.aaload, 1) := by decide +kernel
theorem dX11_piece_41 : decode cX11_piece 41 = .ok (.astore_n 2, 1) := by decide +kernel
theorem dX11_piece_42 : decode cX11_piece 42 = .ok (.aload_n 2, 1) := by decide +kernel
theorem dX11_piece_43 : decode cX11_piece 43 = .ok (.getfield 282, 3) := by decide +kernel
theorem dX11_piece_46 : decode cX11_piece 46 = .ok (.iconst 3, 1) := by decide +kernel
theorem dX11_piece_47 : decode cX11_piece 47 = .ok (.if_icmp .ne 14, 3) := by decide +kernel
theorem dX11_piece_50 : decode cX11_piece 50 = .ok (.aload_n 2, 1) := by decide +kernel
theorem dX11_piece_51 : decode cX11_piece 51 = .ok (.getfield 318, 3) := by decide +kernel
theorem dX11_piece_54 : decode cX11_piece 54 = .ok (.aload_n 2, 1) := by decide +kernel
theorem dX11_piece_55 : decode cX11_piece 55 = .ok (.getfield 321, 3) := by decide +kernel
theorem dX11_piece_58 : decode cX11_piece 58 = .ok (.if_icmp .lt 6, 3) := by decide +kernel
theorem dX11_piece_61 : decode cX11_piece 61 = .ok (.bipush (-4), 2) := by decide +kernel
theorem dX11_piece_63 : decode cX11_piece 63 = .ok (.ireturn, 1) := by decide +kernel
theorem dX11_piece_64 : decode cX11_piece 64 = .ok (.aload_n 0, 1) := by decide +kernel
theorem dX11_piece_65 : decode cX11_piece 65 = .ok (.getfield 55, 3) := by decide +kernel
theorem dX11_piece_68 : decode cX11_piece 68 = .ok (.dup, 1) := by decide +kernel
theorem dX11_piece_69 : decode cX11_piece 69 = .ok (.getfield 312, 3) := by decide +kernel
theorem dX11_piece_72 : decode cX11_piece 72 = .ok (.iconst 1, 1) := by decide +kernel
theorem dX11_piece_73 : decode cX11_piece 73 = .ok (.iadd, 1) := by decide +kernel
theorem dX11_piece_74 : decode cX11_piece 74 = .ok (.putfield 312, 3) := by decide +kernel
theorem dX11_piece_77 : decode cX11_piece 77 = .ok (.aload_n 2, 1) := by decide +kernel
theorem dX11_piece_78 : decode cX11_piece 78 = .ok (.dup, 1) := by decide +kernel
theorem dX11_piece_79 : decode cX11_piece 79 = .ok (.getfield 318, 3) := by decide +kernel
theorem dX11_piece_82 : decode cX11_piece 82 = .ok (.iconst 1, 1) := by decide +kernel
theorem dX11_piece_83 : decode cX11_piece 83 = .ok (.iadd, 1) := by decide +kernel
theorem dX11_piece_84 : decode cX11_piece 84 = .ok (.putfield 318, 3) := by decide +kernel
theorem dX11_piece_87 : decode cX11_piece 87 = .ok (.aload_n 0, 1) := by decide +kernel
theorem dX11_piece_88 : decode cX11_piece 88 = .ok (.getfield 55, 3) := by decide +kernel
theorem dX11_piece_91 : decode cX11_piece 91 = .ok (.iconst 4, 1) := by decide +kernel
theorem dX11_piece_92 : decode cX11_piece 92 = .ok (.iload_n 1, 1) := by decide +kernel
theorem dX11_piece_93 : decode cX11_piece 93 = .ok (.aload_n 2, 1) := by decide +kernel
theorem dX11_piece_94 : decode cX11_piece 94 = .ok (.getfield 318, 3) := by decide +kernel
theorem dX11_piece_97 : decode cX11_piece 97 = .ok (.invokevirtual 315, 3) := by decide +kernel
theorem dX11_piece_100 : decode cX11_piece 100 = .ok (.ireturn, 1) := by decide +kernel
theorem dX11_stream_0 : decode cX11_stream 0 = .ok (.iload_n 1, 1) := by decide +kernel
theorem dX11_stream_1 : decode cX11_stream 1 = .ok (.aload_n 0, 1) := by decide +kernel
theorem dX11_stream_2 : decode cX11_stream 2 = .ok (.getfield 55, 3) := by decide +kernel
theorem dX11_stream_5 : decode cX11_stream 5 = .ok (.getfield 241, 3) := by decide +kernel
theorem dX11_stream_8 : decode cX11_stream 8 = .ok (.invokestatic 86, 3) := by decide +kernel
theorem dX11_stream_11 : decode cX11_stream 11 = .ok (.ifCond .eq 11, 3) := by decide +kernel
theorem dX11_stream_14 : decode cX11_stream 14 = .ok (.iload_n 2, 1) := by decide +kernel
theorem dX11_stream_15 : decode cX11_stream 15 = .ok (.iconst 3, 1) := by decide +kernel
theorem dX11_stream_16 : decode cX11_stream 16 = .ok (.invokestatic 86, 3) := by decide +kernel
theorem dX11_stream_19 : decode cX11_stream 19 = .ok (.ifCond .ne 5, 3) := by decide +kernel
theorem dX11_stream_22 : decode cX11_stream 22 = .ok (.iconst (-1), 1) := by decide +kernel
theorem dX11_stream_23 : decode cX11_stream 23 = .ok (.ireturn, 1) := by decide +kernel
theorem dX11_stream_24 : decode cX11_stream 24 = .ok (.aload_n 0, 1) := by decide +kernel
theorem dX11_stream_25 : decode cX11_stream 25 = .ok (.getfield 55, 3) := by decide +kernel
theorem dX11_stream_28 : decode cX11_stream 28 = .ok (.getfield 278, 3) := by decide +kernel
theorem dX11_stream_31 : decode cX11_stream 31 = .ok (.iload_n 1, 1) := by decide +kernel
theorem dX11_stream_32 : decode cX11_stream 32 = .ok (.aaload, 1) := by decide +kernel
theorem dX11_stream_33 : decode cX11_stream 33 = .ok (.iload_n 2, 1) := by decide +kernel
theorem dX11_stream_34 : decode cX11_stream 34 = .ok (.invokevirtual 324, 3) := by decide +kernel
theorem dX11_stream_37 : decode cX11_stream 37 = .ok (.ireturn, 1) := by decide +kernel
theorem dX11_mean_0 : decode cX11_mean 0 = .ok (.aload_n 0, 1) := by decide +kernel
theorem dX11_mean_1 : decode cX11_mean 1 = .ok (.getfield 55, 3) := by decide +kernel
theorem dX11_mean_4 : decode cX11_mean 4 = .ok (.invokevirtual 327, 3) := by decide +kernel
theorem dX11_mean_7 : decode cX11_mean 7 = .ok (.istore_n 1, 1) := by decide +kernel
theorem dX11_mean_8 : decode cX11_mean 8 = .ok (.iload_n 1, 1) := by decide +kernel
theorem dX11_mean_9 : decode cX11_mean 9 = .ok (.ifCond .ne 9, 3) := by decide +kernel
theorem dX11_mean_12 : decode cX11_mean 12 = .ok (.aload_n 0, 1) := by decide +kernel
theorem dX11_mean_13 : decode cX11_mean 13 = .ok (.iconst 4, 1) := by decide +kernel
theorem dX11_mean_14 : decode cX11_mean 14 = .ok (.invokevirtual 90, 3) := by decide +kernel
theorem dX11_mean_17 : decode cX11_mean 17 = .ok (.ireturn, 1) := by decide +kernel
theorem dX11_mean_18 : decode cX11_mean 18 = .ok (.aload_n 0, 1) := by decide +kernel
theorem dX11_mean_19 : decode cX11_mean 19 = .ok (.getfield 55, 3) := by decide +kernel
theorem dX11_mean_22 : decode cX11_mean 22 = .ok (.invokevirtual 330, 3) := by decide +kernel
theorem dX11_mean_25 : decode cX11_mean 25 = .ok (.lstore_n 2, 1) := by decide +kernel
theorem dX11_mean_26 : decode cX11_mean 26 = .ok (.lload_n 2, 1) := by decide +kernel
theorem dX11_mean_27 : decode cX11_mean 27 = .ok (.iload_n 1, 1) := by decide +kernel
theorem dX11_mean_28 : decode cX11_mean 28 = .ok (.i2l, 1) := by decide +kernel
theorem dX11_mean_29 : decode cX11_mean 29 = .ok (.invokestatic 334, 3) := by decide +kernel
theorem dX11_mean_32 : decode cX11_mean 32 = .ok (.lstore 4, 2) := by decide +kernel
theorem dX11_mean_34 : decode cX11_mean 34 = .ok (.aload_n 0, 1) := by decide +kernel
theorem dX11_mean_35 : decode cX11_mean 35 = .ok (.lload_n 2, 1) := by decide +kernel
theorem dX11_mean_36 : decode cX11_mean 36 = .ok (.lload 4, 2) := by decide +kernel
theorem dX11_mean_38 : decode cX11_mean 38 = .ok (.ldiv, 1) := by decide +kernel
theorem dX11_mean_39 : decode cX11_mean 39 = .ok (.putfield 75, 3) := by decide +kernel
theorem dX11_mean_42 : decode cX11_mean 42 = .ok (.aload_n 0, 1) := by decide +kernel
theorem dX11_mean_43 : decode cX11_mean 43 = .ok (.iload_n 1, 1) := by decide +kernel
theorem dX11_mean_44 : decode cX11_mean 44 = .ok (.i2l, 1) := by decide +kernel
theorem dX11_mean_45 : decode cX11_mean 45 = .ok (.lload 4, 2) := by decide +kernel
theorem dX11_mean_47 : decode cX11_mean 47 = .ok (.ldiv, 1) := by decide +kernel
theorem dX11_mean_48 : decode cX11_mean 48 = .ok (.putfield 79, 3) := by decide +kernel
theorem dX11_mean_51 : decode cX11_mean 51 = .ok (.iload_n 1, 1) := by decide +kernel
theorem dX11_mean_52 : decode cX11_mean 52 = .ok (.ireturn, 1) := by decide +kernel
theorem dX11_asked_0 : decode cX11_asked 0 = .ok (.aload_n 0, 1) := by decide +kernel
theorem dX11_asked_1 : decode cX11_asked 1 = .ok (.getfield 72, 3) := by decide +kernel
theorem dX11_asked_4 : decode cX11_asked 4 = .ok (.ireturn, 1) := by decide +kernel
theorem dX11_upper_0 : decode cX11_upper 0 = .ok (.aload_n 0, 1) := by decide +kernel
theorem dX11_upper_1 : decode cX11_upper 1 = .ok (.getfield 75, 3) := by decide +kernel
theorem dX11_upper_4 : decode cX11_upper 4 = .ok (.lreturn, 1) := by decide +kernel
theorem dX11_lower_0 : decode cX11_lower 0 = .ok (.aload_n 0, 1) := by decide +kernel
theorem dX11_lower_1 : decode cX11_lower 1 = .ok (.getfield 79, 3) := by decide +kernel
theorem dX11_lower_4 : decode cX11_lower 4 = .ok (.lreturn, 1) := by decide +kernel
theorem dX11_count_0 : decode cX11_count 0 = .ok (.iload_n 1, 1) := by decide +kernel
theorem dX11_count_1 : decode cX11_count 1 = .ok (.bipush 9, 2) := by decide +kernel
theorem dX11_count_3 : decode cX11_count 3 = .ok (.invokestatic 86, 3) := by decide +kernel
theorem dX11_count_6 : decode cX11_count 6 = .ok (.ifCond .eq 11, 3) := by decide +kernel
theorem dX11_count_9 : decode cX11_count 9 = .ok (.aload_n 0, 1) := by decide +kernel
theorem dX11_count_10 : decode cX11_count 10 = .ok (.iload_n 1, 1) := by decide +kernel
theorem dX11_count_11 : decode cX11_count 11 = .ok (.invokevirtual 338, 3) := by decide +kernel
theorem dX11_count_14 : decode cX11_count 14 = .ok (.goto 4, 3) := by decide +kernel
theorem dX11_count_17 : decode cX11_count 17 = .ok (.iconst (-1), 1) := by decide +kernel
theorem dX11_count_18 : decode cX11_count 18 = .ok (.ireturn, 1) := by decide +kernel
theorem dX11_finding_0 : decode cX11_finding 0 = .ok (.aload_n 0, 1) := by decide +kernel
theorem dX11_finding_1 : decode cX11_finding 1 = .ok (.getfield 68, 3) := by decide +kernel
theorem dX11_finding_4 : decode cX11_finding 4 = .ok (.ireturn, 1) := by decide +kernel
theorem dX11_findings_0 : decode cX11_findings 0 = .ok (.iload_n 1, 1) := by decide +kernel
theorem dX11_findings_1 : decode cX11_findings 1 = .ok (.iconst 1, 1) := by decide +kernel
theorem dX11_findings_2 : decode cX11_findings 2 = .ok (.if_icmp .lt 17, 3) := by decide +kernel
theorem dX11_findings_5 : decode cX11_findings 5 = .ok (.iload_n 1, 1) := by decide +kernel
theorem dX11_findings_6 : decode cX11_findings 6 = .ok (.iconst 5, 1) := by decide +kernel
theorem dX11_findings_7 : decode cX11_findings 7 = .ok (.if_icmp .gt 12, 3) := by decide +kernel
theorem dX11_findings_10 : decode cX11_findings 10 = .ok (.aload_n 0, 1) := by decide +kernel
theorem dX11_findings_11 : decode cX11_findings 11 = .ok (.getfield 64, 3) := by decide +kernel
theorem dX11_findings_14 : decode cX11_findings 14 = .ok (.iload_n 1, 1) := by decide +kernel
theorem dX11_findings_15 : decode cX11_findings 15 = .ok (.iaload, 1) := by decide +kernel
theorem dX11_findings_16 : decode cX11_findings 16 = .ok (.goto 4, 3) := by decide +kernel
theorem dX11_findings_19 : decode cX11_findings 19 = .ok (.iconst (-1), 1) := by decide +kernel
theorem dX11_findings_20 : decode cX11_findings 20 = .ok (.ireturn, 1) := by decide +kernel
theorem dX11_digest_0 : decode cX11_digest 0 = .ok (.ldc2_w 341, 3) := by decide +kernel
theorem dX11_digest_3 : decode cX11_digest 3 = .ok (.lstore_n 1, 1) := by decide +kernel
theorem dX11_digest_4 : decode cX11_digest 4 = .ok (.iconst 0, 1) := by decide +kernel
theorem dX11_digest_5 : decode cX11_digest 5 = .ok (.istore_n 3, 1) := by decide +kernel
theorem dX11_digest_6 : decode cX11_digest 6 = .ok (.iload_n 3, 1) := by decide +kernel
theorem dX11_digest_7 : decode cX11_digest 7 = .ok (.bipush 9, 2) := by decide +kernel
theorem dX11_digest_9 : decode cX11_digest 9 = .ok (.if_icmp .ge 22, 3) := by decide +kernel
theorem dX11_digest_12 : decode cX11_digest 12 = .ok (.ldc2_w 343, 3) := by decide +kernel
theorem dX11_digest_15 : decode cX11_digest 15 = .ok (.lload_n 1, 1) := by decide +kernel
theorem dX11_digest_16 : decode cX11_digest 16 = .ok (.lmul, 1) := by decide +kernel
theorem dX11_digest_17 : decode cX11_digest 17 = .ok (.aload_n 0, 1) := by decide +kernel
theorem dX11_digest_18 : decode cX11_digest 18 = .ok (.iload_n 3, 1) := by decide +kernel
theorem dX11_digest_19 : decode cX11_digest 19 = .ok (.invokevirtual 338, 3) := by decide +kernel
theorem dX11_digest_22 : decode cX11_digest 22 = .ok (.i2l, 1) := by decide +kernel
theorem dX11_digest_23 : decode cX11_digest 23 = .ok (.ladd, 1) := by decide +kernel
theorem dX11_digest_24 : decode cX11_digest 24 = .ok (.lstore_n 1, 1) := by decide +kernel
theorem dX11_digest_25 : decode cX11_digest 25 = .ok (.iinc 3 1, 3) := by decide +kernel
theorem dX11_digest_28 : decode cX11_digest 28 = .ok (.goto (-22), 3) := by decide +kernel
theorem dX11_digest_31 : decode cX11_digest 31 = .ok (.iconst 0, 1) := by decide +kernel
theorem dX11_digest_32 : decode cX11_digest 32 = .ok (.istore_n 3, 1) := by decide +kernel
theorem dX11_digest_33 : decode cX11_digest 33 = .ok (.iload_n 3, 1) := by decide +kernel
theorem dX11_digest_34 : decode cX11_digest 34 = .ok (.iconst 4, 1) := by decide +kernel
theorem dX11_digest_35 : decode cX11_digest 35 = .ok (.if_icmp .ge 20, 3) := by decide +kernel
theorem dX11_digest_38 : decode cX11_digest 38 = .ok (.lload_n 1, 1) := by decide +kernel
theorem dX11_digest_39 : decode cX11_digest 39 = .ok (.aload_n 0, 1) := by decide +kernel
theorem dX11_digest_40 : decode cX11_digest 40 = .ok (.getfield 20, 3) := by decide +kernel
theorem dX11_digest_43 : decode cX11_digest 43 = .ok (.iload_n 3, 1) := by decide +kernel
theorem dX11_digest_44 : decode cX11_digest 44 = .ok (.aaload, 1) := by decide +kernel
theorem dX11_digest_45 : decode cX11_digest 45 = .ok (.invokestatic 345, 3) := by decide +kernel
theorem dX11_digest_48 : decode cX11_digest 48 = .ok (.lstore_n 1, 1) := by decide +kernel
theorem dX11_digest_49 : decode cX11_digest 49 = .ok (.iinc 3 1, 3) := by decide +kernel
theorem dX11_digest_52 : decode cX11_digest 52 = .ok (.goto (-19), 3) := by decide +kernel
theorem dX11_digest_55 : decode cX11_digest 55 = .ok (.iconst 0, 1) := by decide +kernel
theorem dX11_digest_56 : decode cX11_digest 56 = .ok (.istore_n 3, 1) := by decide +kernel
theorem dX11_digest_57 : decode cX11_digest 57 = .ok (.iload_n 3, 1) := by decide +kernel
theorem dX11_digest_58 : decode cX11_digest 58 = .ok (.bipush 6, 2) := by decide +kernel
theorem dX11_digest_60 : decode cX11_digest 60 = .ok (.if_icmp .ge 16, 3) := by decide +kernel
theorem dX11_digest_63 : decode cX11_digest 63 = .ok (.aload_n 0, 1) := by decide +kernel
theorem dX11_digest_64 : decode cX11_digest 64 = .ok (.lload_n 1, 1) := by decide +kernel
theorem dX11_digest_65 : decode cX11_digest 65 = .ok (.iload_n 3, 1) := by decide +kernel
theorem dX11_digest_66 : decode cX11_digest 66 = .ok (.invokevirtual 349, 3) := by decide +kernel
theorem dX11_digest_69 : decode cX11_digest 69 = .ok (.lstore_n 1, 1) := by decide +kernel
theorem dX11_digest_70 : decode cX11_digest 70 = .ok (.iinc 3 1, 3) := by decide +kernel
theorem dX11_digest_73 : decode cX11_digest 73 = .ok (.goto (-16), 3) := by decide +kernel
theorem dX11_digest_76 : decode cX11_digest 76 = .ok (.iconst 0, 1) := by decide +kernel
theorem dX11_digest_77 : decode cX11_digest 77 = .ok (.istore_n 3, 1) := by decide +kernel
theorem dX11_digest_78 : decode cX11_digest 78 = .ok (.iload_n 3, 1) := by decide +kernel
theorem dX11_digest_79 : decode cX11_digest 79 = .ok (.aload_n 0, 1) := by decide +kernel
theorem dX11_digest_80 : decode cX11_digest 80 = .ok (.getfield 55, 3) := by decide +kernel
theorem dX11_digest_83 : decode cX11_digest 83 = .ok (.getfield 241, 3) := by decide +kernel
theorem dX11_digest_86 : decode cX11_digest 86 = .ok (.if_icmp .ge 23, 3) := by decide +kernel
theorem dX11_digest_89 : decode cX11_digest 89 = .ok (.lload_n 1, 1) := by decide +kernel
theorem dX11_digest_90 : decode cX11_digest 90 = .ok (.aload_n 0, 1) := by decide +kernel
theorem dX11_digest_91 : decode cX11_digest 91 = .ok (.getfield 55, 3) := by decide +kernel
theorem dX11_digest_94 : decode cX11_digest 94 = .ok (.getfield 278, 3) := by decide +kernel
theorem dX11_digest_97 : decode cX11_digest 97 = .ok (.iload_n 3, 1) := by decide +kernel
theorem dX11_digest_98 : decode cX11_digest 98 = .ok (.aaload, 1) := by decide +kernel
theorem dX11_digest_99 : decode cX11_digest 99 = .ok (.invokestatic 353, 3) := by decide +kernel
theorem dX11_digest_102 : decode cX11_digest 102 = .ok (.lstore_n 1, 1) := by decide +kernel
theorem dX11_digest_103 : decode cX11_digest 103 = .ok (.iinc 3 1, 3) := by decide +kernel
theorem dX11_digest_106 : decode cX11_digest 106 = .ok (.goto (-28), 3) := by decide +kernel
theorem dX11_digest_109 : decode cX11_digest 109 = .ok (.iconst 0, 1) := by decide +kernel
theorem dX11_digest_110 : decode cX11_digest 110 = .ok (.istore_n 3, 1) := by decide +kernel
theorem dX11_digest_111 : decode cX11_digest 111 = .ok (.iload_n 3, 1) := by decide +kernel
theorem dX11_digest_112 : decode cX11_digest 112 = .ok (.aload_n 0, 1) := by decide +kernel
theorem dX11_digest_113 : decode cX11_digest 113 = .ok (.getfield 55, 3) := by decide +kernel
theorem dX11_digest_116 : decode cX11_digest 116 = .ok (.getfield 265, 3) := by decide +kernel
theorem dX11_digest_119 : decode cX11_digest 119 = .ok (.getfield 304, 3) := by decide +kernel
theorem dX11_digest_122 : decode cX11_digest 122 = .ok (.if_icmp .ge 45, 3) := by decide +kernel
theorem dX11_digest_125 : decode cX11_digest 125 = .ok (.iconst 0, 1) := by decide +kernel
theorem dX11_digest_126 : decode cX11_digest 126 = .ok (.istore 4, 2) := by decide +kernel
theorem dX11_digest_128 : decode cX11_digest 128 = .ok (.iload 4, 2) := by decide +kernel
theorem dX11_digest_130 : decode cX11_digest 130 = .ok (.iconst 5, 1) := by decide +kernel
theorem dX11_digest_131 : decode cX11_digest 131 = .ok (.if_icmp .ge 30, 3) := by decide +kernel
theorem dX11_digest_134 : decode cX11_digest 134 = .ok (.ldc2_w 343, 3) := by decide +kernel
theorem dX11_digest_137 : decode cX11_digest 137 = .ok (.lload_n 1, 1) := by decide +kernel
theorem dX11_digest_138 : decode cX11_digest 138 = .ok (.lmul, 1) := by decide +kernel
theorem dX11_digest_139 : decode cX11_digest 139 = .ok (.aload_n 0, 1) := by decide +kernel
theorem dX11_digest_140 : decode cX11_digest 140 = .ok (.getfield 55, 3) := by decide +kernel
theorem dX11_digest_143 : decode cX11_digest 143 = .ok (.getfield 265, 3) := by decide +kernel
theorem dX11_digest_146 : decode cX11_digest 146 = .ok (.iload_n 3, 1) := by decide +kernel
theorem dX11_digest_147 : decode cX11_digest 147 = .ok (.iload 4, 2) := by decide +kernel
theorem dX11_digest_149 : decode cX11_digest 149 = .ok (.invokevirtual 305, 3) := by decide +kernel
theorem dX11_digest_152 : decode cX11_digest 152 = .ok (.i2l, 1) := by decide +kernel
theorem dX11_digest_153 : decode cX11_digest 153 = .ok (.ladd, 1) := by decide +kernel
theorem dX11_digest_154 : decode cX11_digest 154 = .ok (.lstore_n 1, 1) := by decide +kernel
theorem dX11_digest_155 : decode cX11_digest 155 = .ok (.iinc 4 1, 3) := by decide +kernel
theorem dX11_digest_158 : decode cX11_digest 158 = .ok (.goto (-30), 3) := by decide +kernel
theorem dX11_digest_161 : decode cX11_digest 161 = .ok (.iinc 3 1, 3) := by decide +kernel
theorem dX11_digest_164 : decode cX11_digest 164 = .ok (.goto (-53), 3) := by decide +kernel
theorem dX11_digest_167 : decode cX11_digest 167 = .ok (.iconst 0, 1) := by decide +kernel
theorem dX11_digest_168 : decode cX11_digest 168 = .ok (.istore_n 3, 1) := by decide +kernel
theorem dX11_digest_169 : decode cX11_digest 169 = .ok (.iload_n 3, 1) := by decide +kernel
theorem dX11_digest_170 : decode cX11_digest 170 = .ok (.bipush 6, 2) := by decide +kernel
theorem dX11_digest_172 : decode cX11_digest 172 = .ok (.if_icmp .ge 20, 3) := by decide +kernel
theorem dX11_digest_175 : decode cX11_digest 175 = .ok (.lload_n 1, 1) := by decide +kernel
theorem dX11_digest_176 : decode cX11_digest 176 = .ok (.aload_n 0, 1) := by decide +kernel
theorem dX11_digest_177 : decode cX11_digest 177 = .ok (.getfield 11, 3) := by decide +kernel
theorem dX11_digest_180 : decode cX11_digest 180 = .ok (.iload_n 3, 1) := by decide +kernel
theorem dX11_digest_181 : decode cX11_digest 181 = .ok (.aaload, 1) := by decide +kernel
theorem dX11_digest_182 : decode cX11_digest 182 = .ok (.invokestatic 357, 3) := by decide +kernel
theorem dX11_digest_185 : decode cX11_digest 185 = .ok (.lstore_n 1, 1) := by decide +kernel
theorem dX11_digest_186 : decode cX11_digest 186 = .ok (.iinc 3 1, 3) := by decide +kernel
theorem dX11_digest_189 : decode cX11_digest 189 = .ok (.goto (-20), 3) := by decide +kernel
theorem dX11_digest_192 : decode cX11_digest 192 = .ok (.iconst 0, 1) := by decide +kernel
theorem dX11_digest_193 : decode cX11_digest 193 = .ok (.istore_n 3, 1) := by decide +kernel
theorem dX11_digest_194 : decode cX11_digest 194 = .ok (.iload_n 3, 1) := by decide +kernel
theorem dX11_digest_195 : decode cX11_digest 195 = .ok (.bipush 6, 2) := by decide +kernel
theorem dX11_digest_197 : decode cX11_digest 197 = .ok (.if_icmp .ge 20, 3) := by decide +kernel
theorem dX11_digest_200 : decode cX11_digest 200 = .ok (.lload_n 1, 1) := by decide +kernel
theorem dX11_digest_201 : decode cX11_digest 201 = .ok (.aload_n 0, 1) := by decide +kernel
theorem dX11_digest_202 : decode cX11_digest 202 = .ok (.getfield 15, 3) := by decide +kernel
theorem dX11_digest_205 : decode cX11_digest 205 = .ok (.iload_n 3, 1) := by decide +kernel
theorem dX11_digest_206 : decode cX11_digest 206 = .ok (.aaload, 1) := by decide +kernel
theorem dX11_digest_207 : decode cX11_digest 207 = .ok (.invokestatic 357, 3) := by decide +kernel
theorem dX11_digest_210 : decode cX11_digest 210 = .ok (.lstore_n 1, 1) := by decide +kernel
theorem dX11_digest_211 : decode cX11_digest 211 = .ok (.iinc 3 1, 3) := by decide +kernel
theorem dX11_digest_214 : decode cX11_digest 214 = .ok (.goto (-20), 3) := by decide +kernel
theorem dX11_digest_217 : decode cX11_digest 217 = .ok (.lload_n 1, 1) := by decide +kernel
theorem dX11_digest_218 : decode cX11_digest 218 = .ok (.lreturn, 1) := by decide +kernel
theorem dX11_within_0 : decode cX11_within 0 = .ok (.iload_n 0, 1) := by decide +kernel
theorem dX11_within_1 : decode cX11_within 1 = .ok (.ifCond .lt 12, 3) := by decide +kernel
theorem dX11_within_4 : decode cX11_within 4 = .ok (.iload_n 0, 1) := by decide +kernel
theorem dX11_within_5 : decode cX11_within 5 = .ok (.iload_n 1, 1) := by decide +kernel
theorem dX11_within_6 : decode cX11_within 6 = .ok (.if_icmp .ge 7, 3) := by decide +kernel
theorem dX11_within_9 : decode cX11_within 9 = .ok (.iconst 1, 1) := by decide +kernel
theorem dX11_within_10 : decode cX11_within 10 = .ok (.goto 4, 3) := by decide +kernel
theorem dX11_within_13 : decode cX11_within 13 = .ok (.iconst 0, 1) := by decide +kernel
theorem dX11_within_14 : decode cX11_within 14 = .ok (.ireturn, 1) := by decide +kernel
theorem dX11_isPair_0 : decode cX11_isPair 0 = .ok (.iload_n 0, 1) := by decide +kernel
theorem dX11_isPair_1 : decode cX11_isPair 1 = .ok (.bipush 6, 2) := by decide +kernel
theorem dX11_isPair_3 : decode cX11_isPair 3 = .ok (.invokestatic 86, 3) := by decide +kernel
theorem dX11_isPair_6 : decode cX11_isPair 6 = .ok (.ifCond .eq 21, 3) := by decide +kernel
theorem dX11_isPair_9 : decode cX11_isPair 9 = .ok (.iload_n 1, 1) := by decide +kernel
theorem dX11_isPair_10 : decode cX11_isPair 10 = .ok (.bipush 6, 2) := by decide +kernel
theorem dX11_isPair_12 : decode cX11_isPair 12 = .ok (.invokestatic 86, 3) := by decide +kernel
theorem dX11_isPair_15 : decode cX11_isPair 15 = .ok (.ifCond .eq 12, 3) := by decide +kernel
theorem dX11_isPair_18 : decode cX11_isPair 18 = .ok (.iload_n 0, 1) := by decide +kernel
theorem dX11_isPair_19 : decode cX11_isPair 19 = .ok (.iload_n 1, 1) := by decide +kernel
theorem dX11_isPair_20 : decode cX11_isPair 20 = .ok (.if_icmp .eq 7, 3) := by decide +kernel
theorem dX11_isPair_23 : decode cX11_isPair 23 = .ok (.iconst 1, 1) := by decide +kernel
theorem dX11_isPair_24 : decode cX11_isPair 24 = .ok (.goto 4, 3) := by decide +kernel
theorem dX11_isPair_27 : decode cX11_isPair 27 = .ok (.iconst 0, 1) := by decide +kernel
theorem dX11_isPair_28 : decode cX11_isPair 28 = .ok (.ireturn, 1) := by decide +kernel
theorem dX11_find_0 : decode cX11_find 0 = .ok (.aload_n 0, 1) := by decide +kernel
theorem dX11_find_1 : decode cX11_find 1 = .ok (.iload_n 1, 1) := by decide +kernel
theorem dX11_find_2 : decode cX11_find 2 = .ok (.putfield 68, 3) := by decide +kernel
theorem dX11_find_5 : decode cX11_find 5 = .ok (.aload_n 0, 1) := by decide +kernel
theorem dX11_find_6 : decode cX11_find 6 = .ok (.getfield 64, 3) := by decide +kernel
theorem dX11_find_9 : decode cX11_find 9 = .ok (.iload_n 1, 1) := by decide +kernel
theorem dX11_find_10 : decode cX11_find 10 = .ok (.dup2, 1) := by decide +kernel
theorem dX11_find_11 : decode cX11_find 11 = .ok (.iaload, 1) := by decide +kernel
theorem dX11_find_12 : decode cX11_find 12 = .ok (.iconst 1, 1) := by decide +kernel
theorem dX11_find_13 : decode cX11_find 13 = .ok (.iadd, 1) := by decide +kernel
theorem dX11_find_14 : decode cX11_find 14 = .ok (.iastore, 1) := by decide +kernel
theorem dX11_find_15 : decode cX11_find 15 = .ok (.bipush (-3), 2) := by decide +kernel
theorem dX11_find_17 : decode cX11_find 17 = .ok (.ireturn, 1) := by decide +kernel
theorem dX11_refusalOfPlace_0 : decode cX11_refusalOfPlace 0 = .ok (.iload_n 1, 1) := by decide +kernel
theorem dX11_refusalOfPlace_1 : decode cX11_refusalOfPlace 1 = .ok (.bipush 6, 2) := by decide +kernel
theorem dX11_refusalOfPlace_3 : decode cX11_refusalOfPlace 3 = .ok (.invokestatic 86, 3) := by decide +kernel
theorem dX11_refusalOfPlace_6 : decode cX11_refusalOfPlace 6 = .ok (.ifCond .ne 5, 3) := by decide +kernel
theorem dX11_refusalOfPlace_9 : decode cX11_refusalOfPlace 9 = .ok (.iconst (-1), 1) := by decide +kernel
theorem dX11_refusalOfPlace_10 : decode cX11_refusalOfPlace 10 = .ok (.ireturn, 1) := by decide +kernel
theorem dX11_refusalOfPlace_11 : decode cX11_refusalOfPlace 11 = .ok (.aload_n 0, 1) := by decide +kernel
theorem dX11_refusalOfPlace_12 : decode cX11_refusalOfPlace 12 = .ok (.getfield 11, 3) := by decide +kernel
theorem dX11_refusalOfPlace_15 : decode cX11_refusalOfPlace 15 = .ok (.iload_n 1, 1) := by decide +kernel
theorem dX11_refusalOfPlace_16 : decode cX11_refusalOfPlace 16 = .ok (.aaload, 1) := by decide +kernel
theorem dX11_refusalOfPlace_17 : decode cX11_refusalOfPlace 17 = .ok (.getfield 105, 3) := by decide +kernel
theorem dX11_refusalOfPlace_20 : decode cX11_refusalOfPlace 20 = .ok (.ifCond .ne 9, 3) := by decide +kernel
theorem dX11_refusalOfPlace_23 : decode cX11_refusalOfPlace 23 = .ok (.aload_n 0, 1) := by decide +kernel
theorem dX11_refusalOfPlace_24 : decode cX11_refusalOfPlace 24 = .ok (.iconst 1, 1) := by decide +kernel
theorem dX11_refusalOfPlace_25 : decode cX11_refusalOfPlace 25 = .ok (.invokevirtual 90, 3) := by decide +kernel
theorem dX11_refusalOfPlace_28 : decode cX11_refusalOfPlace 28 = .ok (.ireturn, 1) := by decide +kernel
theorem dX11_refusalOfPlace_29 : decode cX11_refusalOfPlace 29 = .ok (.iload_n 2, 1) := by decide +kernel
theorem dX11_refusalOfPlace_30 : decode cX11_refusalOfPlace 30 = .ok (.aload_n 0, 1) := by decide +kernel
theorem dX11_refusalOfPlace_31 : decode cX11_refusalOfPlace 31 = .ok (.getfield 11, 3) := by decide +kernel
theorem dX11_refusalOfPlace_34 : decode cX11_refusalOfPlace 34 = .ok (.iload_n 1, 1) := by decide +kernel
theorem dX11_refusalOfPlace_35 : decode cX11_refusalOfPlace 35 = .ok (.aaload, 1) := by decide +kernel
theorem dX11_refusalOfPlace_36 : decode cX11_refusalOfPlace 36 = .ok (.getfield 118, 3) := by decide +kernel
theorem dX11_refusalOfPlace_39 : decode cX11_refusalOfPlace 39 = .ok (.invokestatic 86, 3) := by decide +kernel
theorem dX11_refusalOfPlace_42 : decode cX11_refusalOfPlace 42 = .ok (.ifCond .eq 8, 3) := by decide +kernel
theorem dX11_refusalOfPlace_45 : decode cX11_refusalOfPlace 45 = .ok (.bipush (-9), 2) := by decide +kernel
theorem dX11_refusalOfPlace_47 : decode cX11_refusalOfPlace 47 = .ok (.goto 8, 3) := by decide +kernel
theorem dX11_refusalOfPlace_50 : decode cX11_refusalOfPlace 50 = .ok (.aload_n 0, 1) := by decide +kernel
theorem dX11_refusalOfPlace_51 : decode cX11_refusalOfPlace 51 = .ok (.iconst 2, 1) := by decide +kernel
theorem dX11_refusalOfPlace_52 : decode cX11_refusalOfPlace 52 = .ok (.invokevirtual 90, 3) := by decide +kernel
theorem dX11_refusalOfPlace_55 : decode cX11_refusalOfPlace 55 = .ok (.ireturn, 1) := by decide +kernel
theorem dX11_refusalOfVersions_0 : decode cX11_refusalOfVersions 0 = .ok (.iload_n 1, 1) := by decide +kernel
theorem dX11_refusalOfVersions_1 : decode cX11_refusalOfVersions 1 = .ok (.iconst 4, 1) := by decide +kernel
theorem dX11_refusalOfVersions_2 : decode cX11_refusalOfVersions 2 = .ok (.invokestatic 86, 3) := by decide +kernel
theorem dX11_refusalOfVersions_5 : decode cX11_refusalOfVersions 5 = .ok (.ifCond .eq 21, 3) := by decide +kernel
theorem dX11_refusalOfVersions_8 : decode cX11_refusalOfVersions 8 = .ok (.iload_n 2, 1) := by decide +kernel
theorem dX11_refusalOfVersions_9 : decode cX11_refusalOfVersions 9 = .ok (.bipush 10, 2) := by decide +kernel
theorem dX11_refusalOfVersions_11 : decode cX11_refusalOfVersions 11 = .ok (.invokestatic 86, 3) := by decide +kernel
theorem dX11_refusalOfVersions_14 : decode cX11_refusalOfVersions 14 = .ok (.ifCond .eq 12, 3) := by decide +kernel
theorem dX11_refusalOfVersions_17 : decode cX11_refusalOfVersions 17 = .ok (.iload_n 3, 1) := by decide +kernel
theorem dX11_refusalOfVersions_18 : decode cX11_refusalOfVersions 18 = .ok (.bipush 10, 2) := by decide +kernel
theorem dX11_refusalOfVersions_20 : decode cX11_refusalOfVersions 20 = .ok (.invokestatic 86, 3) := by decide +kernel
theorem dX11_refusalOfVersions_23 : decode cX11_refusalOfVersions 23 = .ok (.ifCond .ne 5, 3) := by decide +kernel
theorem dX11_refusalOfVersions_26 : decode cX11_refusalOfVersions 26 = .ok (.iconst (-1), 1) := by decide +kernel
theorem dX11_refusalOfVersions_27 : decode cX11_refusalOfVersions 27 = .ok (.ireturn, 1) := by decide +kernel
theorem dX11_refusalOfVersions_28 : decode cX11_refusalOfVersions 28 = .ok (.aload_n 0, 1) := by decide +kernel
theorem dX11_refusalOfVersions_29 : decode cX11_refusalOfVersions 29 = .ok (.getfield 20, 3) := by decide +kernel
theorem dX11_refusalOfVersions_32 : decode cX11_refusalOfVersions 32 = .ok (.iload_n 1, 1) := by decide +kernel
theorem dX11_refusalOfVersions_33 : decode cX11_refusalOfVersions 33 = .ok (.aaload, 1) := by decide +kernel
theorem dX11_refusalOfVersions_34 : decode cX11_refusalOfVersions 34 = .ok (.getfield 136, 3) := by decide +kernel
theorem dX11_refusalOfVersions_37 : decode cX11_refusalOfVersions 37 = .ok (.ifCond .eq 8, 3) := by decide +kernel
theorem dX11_refusalOfVersions_40 : decode cX11_refusalOfVersions 40 = .ok (.bipush (-9), 2) := by decide +kernel
theorem dX11_refusalOfVersions_42 : decode cX11_refusalOfVersions 42 = .ok (.goto 8, 3) := by decide +kernel
theorem dX11_refusalOfVersions_45 : decode cX11_refusalOfVersions 45 = .ok (.aload_n 0, 1) := by decide +kernel
theorem dX11_refusalOfVersions_46 : decode cX11_refusalOfVersions 46 = .ok (.iconst 1, 1) := by decide +kernel
theorem dX11_refusalOfVersions_47 : decode cX11_refusalOfVersions 47 = .ok (.invokevirtual 90, 3) := by decide +kernel
theorem dX11_refusalOfVersions_50 : decode cX11_refusalOfVersions 50 = .ok (.ireturn, 1) := by decide +kernel
theorem dX11_commonDivisor_0 : decode cX11_commonDivisor 0 = .ok (.lload_n 0, 1) := by decide +kernel
theorem dX11_commonDivisor_1 : decode cX11_commonDivisor 1 = .ok (.lstore 4, 2) := by decide +kernel
theorem dX11_commonDivisor_3 : decode cX11_commonDivisor 3 = .ok (.lload_n 2, 1) := by decide +kernel
theorem dX11_commonDivisor_4 : decode cX11_commonDivisor 4 = .ok (.lstore 6, 2) := by decide +kernel
theorem dX11_commonDivisor_6 : decode cX11_commonDivisor 6 = .ok (.iconst 0, 1) := by decide +kernel
theorem dX11_commonDivisor_7 : decode cX11_commonDivisor 7 = .ok (.istore 8, 2) := by decide +kernel
theorem dX11_commonDivisor_9 : decode cX11_commonDivisor 9 = .ok (.iload 8, 2) := by decide +kernel
theorem dX11_commonDivisor_11 : decode cX11_commonDivisor 11 = .ok (.bipush 100, 2) := by decide +kernel
theorem dX11_commonDivisor_13 : decode cX11_commonDivisor 13 = .ok (.if_icmp .ge 31, 3) := by decide +kernel
theorem dX11_commonDivisor_16 : decode cX11_commonDivisor 16 = .ok (.lload 6, 2) := by decide +kernel
theorem dX11_commonDivisor_18 : decode cX11_commonDivisor 18 = .ok (.lconst 0, 1) := by decide +kernel
theorem dX11_commonDivisor_19 : decode cX11_commonDivisor 19 = .ok (.lcmp, 1) := by decide +kernel
theorem dX11_commonDivisor_20 : decode cX11_commonDivisor 20 = .ok (.ifCond .eq 24, 3) := by decide +kernel
theorem dX11_commonDivisor_23 : decode cX11_commonDivisor 23 = .ok (.lload 4, 2) := by decide +kernel
theorem dX11_commonDivisor_25 : decode cX11_commonDivisor 25 = .ok (.lload 6, 2) := by decide +kernel
theorem dX11_commonDivisor_27 : decode cX11_commonDivisor 27 = .ok (.lrem, 1) := by decide +kernel
theorem dX11_commonDivisor_28 : decode cX11_commonDivisor 28 = .ok (.lstore 9, 2) := by decide +kernel
theorem dX11_commonDivisor_30 : decode cX11_commonDivisor 30 = .ok (.lload 6, 2) := by decide +kernel
theorem dX11_commonDivisor_32 : decode cX11_commonDivisor 32 = .ok (.lstore 4, 2) := by decide +kernel
theorem dX11_commonDivisor_34 : decode cX11_commonDivisor 34 = .ok (.lload 9, 2) := by decide +kernel
theorem dX11_commonDivisor_36 : decode cX11_commonDivisor 36 = .ok (.lstore 6, 2) := by decide +kernel
theorem dX11_commonDivisor_38 : decode cX11_commonDivisor 38 = .ok (.iinc 8 1, 3) := by decide +kernel
theorem dX11_commonDivisor_41 : decode cX11_commonDivisor 41 = .ok (.goto (-32), 3) := by decide +kernel
theorem dX11_commonDivisor_44 : decode cX11_commonDivisor 44 = .ok (.lload 4, 2) := by decide +kernel
theorem dX11_commonDivisor_46 : decode cX11_commonDivisor 46 = .ok (.lconst 0, 1) := by decide +kernel
theorem dX11_commonDivisor_47 : decode cX11_commonDivisor 47 = .ok (.lcmp, 1) := by decide +kernel
theorem dX11_commonDivisor_48 : decode cX11_commonDivisor 48 = .ok (.ifCond .ne 7, 3) := by decide +kernel
theorem dX11_commonDivisor_51 : decode cX11_commonDivisor 51 = .ok (.lconst 1, 1) := by decide +kernel
theorem dX11_commonDivisor_52 : decode cX11_commonDivisor 52 = .ok (.goto 5, 3) := by decide +kernel
theorem dX11_commonDivisor_55 : decode cX11_commonDivisor 55 = .ok (.lload 4, 2) := by decide +kernel
theorem dX11_commonDivisor_57 : decode cX11_commonDivisor 57 = .ok (.lreturn, 1) := by decide +kernel
theorem dX11_countOf_0 : decode cX11_countOf 0 = .ok (.iload_n 1, 1) := by decide +kernel
theorem dX11_countOf_1 : decode cX11_countOf 1 = .ok (.tableswitch 120 0 7 #[47, 55, 63, 71, 82, 93, 104, 112], 47) := by decide +kernel
theorem dX11_countOf_48 : decode cX11_countOf 48 = .ok (.aload_n 0, 1) := by decide +kernel
theorem dX11_countOf_49 : decode cX11_countOf 49 = .ok (.getfield 55, 3) := by decide +kernel
theorem dX11_countOf_52 : decode cX11_countOf 52 = .ok (.getfield 244, 3) := by decide +kernel
theorem dX11_countOf_55 : decode cX11_countOf 55 = .ok (.ireturn, 1) := by decide +kernel
theorem dX11_countOf_56 : decode cX11_countOf 56 = .ok (.aload_n 0, 1) := by decide +kernel
theorem dX11_countOf_57 : decode cX11_countOf 57 = .ok (.getfield 55, 3) := by decide +kernel
theorem dX11_countOf_60 : decode cX11_countOf 60 = .ok (.getfield 241, 3) := by decide +kernel
theorem dX11_countOf_63 : decode cX11_countOf 63 = .ok (.ireturn, 1) := by decide +kernel
theorem dX11_countOf_64 : decode cX11_countOf 64 = .ok (.aload_n 0, 1) := by decide +kernel
theorem dX11_countOf_65 : decode cX11_countOf 65 = .ok (.getfield 55, 3) := by decide +kernel
theorem dX11_countOf_68 : decode cX11_countOf 68 = .ok (.getfield 361, 3) := by decide +kernel
theorem dX11_countOf_71 : decode cX11_countOf 71 = .ok (.ireturn, 1) := by decide +kernel
theorem dX11_countOf_72 : decode cX11_countOf 72 = .ok (.aload_n 0, 1) := by decide +kernel
theorem dX11_countOf_73 : decode cX11_countOf 73 = .ok (.getfield 55, 3) := by decide +kernel
theorem dX11_countOf_76 : decode cX11_countOf 76 = .ok (.getfield 265, 3) := by decide +kernel
theorem dX11_countOf_79 : decode cX11_countOf 79 = .ok (.getfield 304, 3) := by decide +kernel
theorem dX11_countOf_82 : decode cX11_countOf 82 = .ok (.ireturn, 1) := by decide +kernel
theorem dX11_countOf_83 : decode cX11_countOf 83 = .ok (.aload_n 0, 1) := by decide +kernel
theorem dX11_countOf_84 : decode cX11_countOf 84 = .ok (.getfield 55, 3) := by decide +kernel
theorem dX11_countOf_87 : decode cX11_countOf 87 = .ok (.getfield 265, 3) := by decide +kernel
theorem dX11_countOf_90 : decode cX11_countOf 90 = .ok (.getfield 364, 3) := by decide +kernel
theorem dX11_countOf_93 : decode cX11_countOf 93 = .ok (.ireturn, 1) := by decide +kernel
theorem dX11_countOf_94 : decode cX11_countOf 94 = .ok (.aload_n 0, 1) := by decide +kernel
theorem dX11_countOf_95 : decode cX11_countOf 95 = .ok (.getfield 55, 3) := by decide +kernel
theorem dX11_countOf_98 : decode cX11_countOf 98 = .ok (.getfield 251, 3) := by decide +kernel
theorem dX11_countOf_101 : decode cX11_countOf 101 = .ok (.getfield 255, 3) := by decide +kernel
theorem dX11_countOf_104 : decode cX11_countOf 104 = .ok (.ireturn, 1) := by decide +kernel
theorem dX11_countOf_105 : decode cX11_countOf 105 = .ok (.aload_n 0, 1) := by decide +kernel
theorem dX11_countOf_106 : decode cX11_countOf 106 = .ok (.getfield 11, 3) := by decide +kernel
theorem dX11_countOf_109 : decode cX11_countOf 109 = .ok (.invokestatic 367, 3) := by decide +kernel
theorem dX11_countOf_112 : decode cX11_countOf 112 = .ok (.ireturn, 1) := by decide +kernel
theorem dX11_countOf_113 : decode cX11_countOf 113 = .ok (.aload_n 0, 1) := by decide +kernel
theorem dX11_countOf_114 : decode cX11_countOf 114 = .ok (.getfield 15, 3) := by decide +kernel
theorem dX11_countOf_117 : decode cX11_countOf 117 = .ok (.invokestatic 367, 3) := by decide +kernel
theorem dX11_countOf_120 : decode cX11_countOf 120 = .ok (.ireturn, 1) := by decide +kernel
theorem dX11_countOf_121 : decode cX11_countOf 121 = .ok (.aload_n 0, 1) := by decide +kernel
theorem dX11_countOf_122 : decode cX11_countOf 122 = .ok (.invokevirtual 371, 3) := by decide +kernel
theorem dX11_countOf_125 : decode cX11_countOf 125 = .ok (.ireturn, 1) := by decide +kernel
theorem dX11_rowsThere_0 : decode cX11_rowsThere 0 = .ok (.iconst 0, 1) := by decide +kernel
theorem dX11_rowsThere_1 : decode cX11_rowsThere 1 = .ok (.istore_n 1, 1) := by decide +kernel
theorem dX11_rowsThere_2 : decode cX11_rowsThere 2 = .ok (.iconst 0, 1) := by decide +kernel
theorem dX11_rowsThere_3 : decode cX11_rowsThere 3 = .ok (.istore_n 2, 1) := by decide +kernel
theorem dX11_rowsThere_4 : decode cX11_rowsThere 4 = .ok (.iload_n 2, 1) := by decide +kernel
theorem dX11_rowsThere_5 : decode cX11_rowsThere 5 = .ok (.aload_n 0, 1) := by decide +kernel
theorem dX11_rowsThere_6 : decode cX11_rowsThere 6 = .ok (.arraylength, 1) := by decide +kernel
theorem dX11_rowsThere_7 : decode cX11_rowsThere 7 = .ok (.if_icmp .ge 26, 3) := by decide +kernel
theorem dX11_rowsThere_10 : decode cX11_rowsThere 10 = .ok (.iload_n 1, 1) := by decide +kernel
theorem dX11_rowsThere_11 : decode cX11_rowsThere 11 = .ok (.aload_n 0, 1) := by decide +kernel
theorem dX11_rowsThere_12 : decode cX11_rowsThere 12 = .ok (.iload_n 2, 1) := by decide +kernel
theorem dX11_rowsThere_13 : decode cX11_rowsThere 13 = .ok (.aaload, 1) := by decide +kernel
theorem dX11_rowsThere_14 : decode cX11_rowsThere 14 = .ok (.getfield 105, 3) := by decide +kernel
theorem dX11_rowsThere_17 : decode cX11_rowsThere 17 = .ok (.ifCond .eq 7, 3) := by decide +kernel
theorem dX11_rowsThere_20 : decode cX11_rowsThere 20 = .ok (.iconst 1, 1) := by decide +kernel
theorem dX11_rowsThere_21 : decode cX11_rowsThere 21 = .ok (.goto 4, 3) := by decide +kernel
theorem dX11_rowsThere_24 : decode cX11_rowsThere 24 = .ok (.iconst 0, 1) := by decide +kernel
theorem dX11_rowsThere_25 : decode cX11_rowsThere 25 = .ok (.iadd, 1) := by decide +kernel
theorem dX11_rowsThere_26 : decode cX11_rowsThere 26 = .ok (.istore_n 1, 1) := by decide +kernel
theorem dX11_rowsThere_27 : decode cX11_rowsThere 27 = .ok (.iinc 2 1, 3) := by decide +kernel
theorem dX11_rowsThere_30 : decode cX11_rowsThere 30 = .ok (.goto (-26), 3) := by decide +kernel
theorem dX11_rowsThere_33 : decode cX11_rowsThere 33 = .ok (.iload_n 1, 1) := by decide +kernel
theorem dX11_rowsThere_34 : decode cX11_rowsThere 34 = .ok (.ireturn, 1) := by decide +kernel
theorem dX11_shapesThere_0 : decode cX11_shapesThere 0 = .ok (.iconst 0, 1) := by decide +kernel
theorem dX11_shapesThere_1 : decode cX11_shapesThere 1 = .ok (.istore_n 1, 1) := by decide +kernel
theorem dX11_shapesThere_2 : decode cX11_shapesThere 2 = .ok (.iconst 0, 1) := by decide +kernel
theorem dX11_shapesThere_3 : decode cX11_shapesThere 3 = .ok (.istore_n 2, 1) := by decide +kernel
theorem dX11_shapesThere_4 : decode cX11_shapesThere 4 = .ok (.iload_n 2, 1) := by decide +kernel
theorem dX11_shapesThere_5 : decode cX11_shapesThere 5 = .ok (.iconst 4, 1) := by decide +kernel
theorem dX11_shapesThere_6 : decode cX11_shapesThere 6 = .ok (.if_icmp .ge 29, 3) := by decide +kernel
theorem dX11_shapesThere_9 : decode cX11_shapesThere 9 = .ok (.iload_n 1, 1) := by decide +kernel
theorem dX11_shapesThere_10 : decode cX11_shapesThere 10 = .ok (.aload_n 0, 1) := by decide +kernel
theorem dX11_shapesThere_11 : decode cX11_shapesThere 11 = .ok (.getfield 20, 3) := by decide +kernel
theorem dX11_shapesThere_14 : decode cX11_shapesThere 14 = .ok (.iload_n 2, 1) := by decide +kernel
theorem dX11_shapesThere_15 : decode cX11_shapesThere 15 = .ok (.aaload, 1) := by decide +kernel
theorem dX11_shapesThere_16 : decode cX11_shapesThere 16 = .ok (.getfield 136, 3) := by decide +kernel
theorem dX11_shapesThere_19 : decode cX11_shapesThere 19 = .ok (.ifCond .eq 7, 3) := by decide +kernel
theorem dX11_shapesThere_22 : decode cX11_shapesThere 22 = .ok (.iconst 1, 1) := by decide +kernel
theorem dX11_shapesThere_23 : decode cX11_shapesThere 23 = .ok (.goto 4, 3) := by decide +kernel
theorem dX11_shapesThere_26 : decode cX11_shapesThere 26 = .ok (.iconst 0, 1) := by decide +kernel
theorem dX11_shapesThere_27 : decode cX11_shapesThere 27 = .ok (.iadd, 1) := by decide +kernel
theorem dX11_shapesThere_28 : decode cX11_shapesThere 28 = .ok (.istore_n 1, 1) := by decide +kernel
theorem dX11_shapesThere_29 : decode cX11_shapesThere 29 = .ok (.iinc 2 1, 3) := by decide +kernel
theorem dX11_shapesThere_32 : decode cX11_shapesThere 32 = .ok (.goto (-28), 3) := by decide +kernel
theorem dX11_shapesThere_35 : decode cX11_shapesThere 35 = .ok (.iload_n 1, 1) := by decide +kernel
theorem dX11_shapesThere_36 : decode cX11_shapesThere 36 = .ok (.ireturn, 1) := by decide +kernel
theorem dX11_mixShape_0 : decode cX11_mixShape 0 = .ok (.aload_n 2, 1) := by decide +kernel
theorem dX11_mixShape_1 : decode cX11_mixShape 1 = .ok (.getfield 136, 3) := by decide +kernel
theorem dX11_mixShape_4 : decode cX11_mixShape 4 = .ok (.ifCond .ne 11, 3) := by decide +kernel
theorem dX11_mixShape_7 : decode cX11_mixShape 7 = .ok (.ldc2_w 343, 3) := by decide +kernel
theorem dX11_mixShape_10 : decode cX11_mixShape 10 = .ok (.lload_n 0, 1) := by decide +kernel
theorem dX11_mixShape_11 : decode cX11_mixShape 11 = .ok (.lmul, 1) := by decide +kernel
theorem dX11_mixShape_12 : decode cX11_mixShape 12 = .ok (.lconst 1, 1) := by decide +kernel
theorem dX11_mixShape_13 : decode cX11_mixShape 13 = .ok (.lsub, 1) := by decide +kernel
theorem dX11_mixShape_14 : decode cX11_mixShape 14 = .ok (.lreturn, 1) := by decide +kernel
theorem dX11_mixShape_15 : decode cX11_mixShape 15 = .ok (.ldc2_w 343, 3) := by decide +kernel
theorem dX11_mixShape_18 : decode cX11_mixShape 18 = .ok (.lload_n 0, 1) := by decide +kernel
theorem dX11_mixShape_19 : decode cX11_mixShape 19 = .ok (.lmul, 1) := by decide +kernel
theorem dX11_mixShape_20 : decode cX11_mixShape 20 = .ok (.aload_n 2, 1) := by decide +kernel
theorem dX11_mixShape_21 : decode cX11_mixShape 21 = .ok (.getfield 133, 3) := by decide +kernel
theorem dX11_mixShape_24 : decode cX11_mixShape 24 = .ok (.i2l, 1) := by decide +kernel
theorem dX11_mixShape_25 : decode cX11_mixShape 25 = .ok (.ladd, 1) := by decide +kernel
theorem dX11_mixShape_26 : decode cX11_mixShape 26 = .ok (.lstore_n 3, 1) := by decide +kernel
theorem dX11_mixShape_27 : decode cX11_mixShape 27 = .ok (.iconst 0, 1) := by decide +kernel
theorem dX11_mixShape_28 : decode cX11_mixShape 28 = .ok (.istore 5, 2) := by decide +kernel
theorem dX11_mixShape_30 : decode cX11_mixShape 30 = .ok (.iload 5, 2) := by decide +kernel
theorem dX11_mixShape_32 : decode cX11_mixShape 32 = .ok (.aload_n 2, 1) := by decide +kernel
theorem dX11_mixShape_33 : decode cX11_mixShape 33 = .ok (.getfield 133, 3) := by decide +kernel
theorem dX11_mixShape_36 : decode cX11_mixShape 36 = .ok (.if_icmp .ge 41, 3) := by decide +kernel
theorem dX11_mixShape_39 : decode cX11_mixShape 39 = .ok (.iconst 0, 1) := by decide +kernel
theorem dX11_mixShape_40 : decode cX11_mixShape 40 = .ok (.istore 6, 2) := by decide +kernel
theorem dX11_mixShape_42 : decode cX11_mixShape 42 = .ok (.iload 6, 2) := by decide +kernel
theorem dX11_mixShape_44 : decode cX11_mixShape 44 = .ok (.bipush 6, 2) := by decide +kernel
theorem dX11_mixShape_46 : decode cX11_mixShape 46 = .ok (.if_icmp .ge 25, 3) := by decide +kernel
theorem dX11_mixShape_49 : decode cX11_mixShape 49 = .ok (.ldc2_w 343, 3) := by decide +kernel
theorem dX11_mixShape_52 : decode cX11_mixShape 52 = .ok (.lload_n 3, 1) := by decide +kernel
theorem dX11_mixShape_53 : decode cX11_mixShape 53 = .ok (.lmul, 1) := by decide +kernel
theorem dX11_mixShape_54 : decode cX11_mixShape 54 = .ok (.aload_n 2, 1) := by decide +kernel
theorem dX11_mixShape_55 : decode cX11_mixShape 55 = .ok (.iload 5, 2) := by decide +kernel
theorem dX11_mixShape_57 : decode cX11_mixShape 57 = .ok (.iload 6, 2) := by decide +kernel
theorem dX11_mixShape_59 : decode cX11_mixShape 59 = .ok (.invokevirtual 137, 3) := by decide +kernel
theorem dX11_mixShape_62 : decode cX11_mixShape 62 = .ok (.i2l, 1) := by decide +kernel
theorem dX11_mixShape_63 : decode cX11_mixShape 63 = .ok (.ladd, 1) := by decide +kernel
theorem dX11_mixShape_64 : decode cX11_mixShape 64 = .ok (.lstore_n 3, 1) := by decide +kernel
theorem dX11_mixShape_65 : decode cX11_mixShape 65 = .ok (.iinc 6 1, 3) := by decide +kernel
theorem dX11_mixShape_68 : decode cX11_mixShape 68 = .ok (.goto (-26), 3) := by decide +kernel
theorem dX11_mixShape_71 : decode cX11_mixShape 71 = .ok (.iinc 5 1, 3) := by decide +kernel
theorem dX11_mixShape_74 : decode cX11_mixShape 74 = .ok (.goto (-44), 3) := by decide +kernel
theorem dX11_mixShape_77 : decode cX11_mixShape 77 = .ok (.lload_n 3, 1) := by decide +kernel
theorem dX11_mixShape_78 : decode cX11_mixShape 78 = .ok (.lreturn, 1) := by decide +kernel
theorem dX11_mixService_0 : decode cX11_mixService 0 = .ok (.aload_n 0, 1) := by decide +kernel
theorem dX11_mixService_1 : decode cX11_mixService 1 = .ok (.getfield 63, 3) := by decide +kernel
theorem dX11_mixService_4 : decode cX11_mixService 4 = .ok (.iload_n 3, 1) := by decide +kernel
theorem dX11_mixService_5 : decode cX11_mixService 5 = .ok (.aaload, 1) := by decide +kernel
theorem dX11_mixService_6 : decode cX11_mixService 6 = .ok (.astore 4, 2) := by decide +kernel
theorem dX11_mixService_8 : decode cX11_mixService 8 = .ok (.ldc2_w 343, 3) := by decide +kernel
theorem dX11_mixService_11 : decode cX11_mixService 11 = .ok (.lload_n 1, 1) := by decide +kernel
theorem dX11_mixService_12 : decode cX11_mixService 12 = .ok (.lmul, 1) := by decide +kernel
theorem dX11_mixService_13 : decode cX11_mixService 13 = .ok (.aload 4, 2) := by decide +kernel
theorem dX11_mixService_15 : decode cX11_mixService 15 = .ok (.getfield 192, 3) := by decide +kernel
theorem dX11_mixService_18 : decode cX11_mixService 18 = .ok (.i2l, 1) := by decide +kernel
theorem dX11_mixService_19 : decode cX11_mixService 19 = .ok (.ladd, 1) := by decide +kernel
theorem dX11_mixService_20 : decode cX11_mixService 20 = .ok (.lstore 5, 2) := by decide +kernel
theorem dX11_mixService_22 : decode cX11_mixService 22 = .ok (.ldc2_w 343, 3) := by decide +kernel
theorem dX11_mixService_25 : decode cX11_mixService 25 = .ok (.lload 5, 2) := by decide +kernel
theorem dX11_mixService_27 : decode cX11_mixService 27 = .ok (.lmul, 1) := by decide +kernel
theorem dX11_mixService_28 : decode cX11_mixService 28 = .ok (.aload 4, 2) := by decide +kernel
theorem dX11_mixService_30 : decode cX11_mixService 30 = .ok (.getfield 197, 3) := by decide +kernel
theorem dX11_mixService_33 : decode cX11_mixService 33 = .ok (.i2l, 1) := by decide +kernel
theorem dX11_mixService_34 : decode cX11_mixService 34 = .ok (.ladd, 1) := by decide +kernel
theorem dX11_mixService_35 : decode cX11_mixService 35 = .ok (.lstore 5, 2) := by decide +kernel
theorem dX11_mixService_37 : decode cX11_mixService 37 = .ok (.ldc2_w 343, 3) := by decide +kernel
theorem dX11_mixService_40 : decode cX11_mixService 40 = .ok (.lload 5, 2) := by decide +kernel
theorem dX11_mixService_42 : decode cX11_mixService 42 = .ok (.lmul, 1) := by decide +kernel
theorem dX11_mixService_43 : decode cX11_mixService 43 = .ok (.aload 4, 2) := by decide +kernel
theorem dX11_mixService_45 : decode cX11_mixService 45 = .ok (.getfield 233, 3) := by decide +kernel
theorem dX11_mixService_48 : decode cX11_mixService 48 = .ok (.i2l, 1) := by decide +kernel
theorem dX11_mixService_49 : decode cX11_mixService 49 = .ok (.ladd, 1) := by decide +kernel
theorem dX11_mixService_50 : decode cX11_mixService 50 = .ok (.lstore 5, 2) := by decide +kernel
theorem dX11_mixService_52 : decode cX11_mixService 52 = .ok (.ldc2_w 343, 3) := by decide +kernel
theorem dX11_mixService_55 : decode cX11_mixService 55 = .ok (.lload 5, 2) := by decide +kernel
theorem dX11_mixService_57 : decode cX11_mixService 57 = .ok (.lmul, 1) := by decide +kernel
theorem dX11_mixService_58 : decode cX11_mixService 58 = .ok (.aload 4, 2) := by decide +kernel
theorem dX11_mixService_60 : decode cX11_mixService 60 = .ok (.getfield 236, 3) := by decide +kernel
theorem dX11_mixService_63 : decode cX11_mixService 63 = .ok (.i2l, 1) := by decide +kernel
theorem dX11_mixService_64 : decode cX11_mixService 64 = .ok (.ladd, 1) := by decide +kernel
theorem dX11_mixService_65 : decode cX11_mixService 65 = .ok (.lstore 5, 2) := by decide +kernel
theorem dX11_mixService_67 : decode cX11_mixService 67 = .ok (.ldc2_w 343, 3) := by decide +kernel
theorem dX11_mixService_70 : decode cX11_mixService 70 = .ok (.lload 5, 2) := by decide +kernel
theorem dX11_mixService_72 : decode cX11_mixService 72 = .ok (.lmul, 1) := by decide +kernel
theorem dX11_mixService_73 : decode cX11_mixService 73 = .ok (.aload 4, 2) := by decide +kernel
theorem dX11_mixService_75 : decode cX11_mixService 75 = .ok (.getfield 239, 3) := by decide +kernel
theorem dX11_mixService_78 : decode cX11_mixService 78 = .ok (.i2l, 1) := by decide +kernel
theorem dX11_mixService_79 : decode cX11_mixService 79 = .ok (.ladd, 1) := by decide +kernel
theorem dX11_mixService_80 : decode cX11_mixService 80 = .ok (.lstore 5, 2) := by decide +kernel
theorem dX11_mixService_82 : decode cX11_mixService 82 = .ok (.iconst 0, 1) := by decide +kernel
theorem dX11_mixService_83 : decode cX11_mixService 83 = .ok (.istore 7, 2) := by decide +kernel
theorem dX11_mixService_85 : decode cX11_mixService 85 = .ok (.iload 7, 2) := by decide +kernel
theorem dX11_mixService_87 : decode cX11_mixService 87 = .ok (.bipush 6, 2) := by decide +kernel
theorem dX11_mixService_89 : decode cX11_mixService 89 = .ok (.if_icmp .ge 27, 3) := by decide +kernel
theorem dX11_mixService_92 : decode cX11_mixService 92 = .ok (.ldc2_w 343, 3) := by decide +kernel
theorem dX11_mixService_95 : decode cX11_mixService 95 = .ok (.lload 5, 2) := by decide +kernel
theorem dX11_mixService_97 : decode cX11_mixService 97 = .ok (.lmul, 1) := by decide +kernel
theorem dX11_mixService_98 : decode cX11_mixService 98 = .ok (.aload 4, 2) := by decide +kernel
theorem dX11_mixService_100 : decode cX11_mixService 100 = .ok (.getfield 203, 3) := by decide +kernel
theorem dX11_mixService_103 : decode cX11_mixService 103 = .ok (.iload 7, 2) := by decide +kernel
theorem dX11_mixService_105 : decode cX11_mixService 105 = .ok (.iaload, 1) := by decide +kernel
theorem dX11_mixService_106 : decode cX11_mixService 106 = .ok (.i2l, 1) := by decide +kernel
theorem dX11_mixService_107 : decode cX11_mixService 107 = .ok (.ladd, 1) := by decide +kernel
theorem dX11_mixService_108 : decode cX11_mixService 108 = .ok (.lstore 5, 2) := by decide +kernel
theorem dX11_mixService_110 : decode cX11_mixService 110 = .ok (.iinc 7 1, 3) := by decide +kernel
theorem dX11_mixService_113 : decode cX11_mixService 113 = .ok (.goto (-28), 3) := by decide +kernel
theorem dX11_mixService_116 : decode cX11_mixService 116 = .ok (.ldc2_w 343, 3) := by decide +kernel
theorem dX11_mixService_119 : decode cX11_mixService 119 = .ok (.lload 5, 2) := by decide +kernel
theorem dX11_mixService_121 : decode cX11_mixService 121 = .ok (.lmul, 1) := by decide +kernel
theorem dX11_mixService_122 : decode cX11_mixService 122 = .ok (.aload 4, 2) := by decide +kernel
theorem dX11_mixService_124 : decode cX11_mixService 124 = .ok (.getfield 298, 3) := by decide +kernel
theorem dX11_mixService_127 : decode cX11_mixService 127 = .ok (.i2l, 1) := by decide +kernel
theorem dX11_mixService_128 : decode cX11_mixService 128 = .ok (.ladd, 1) := by decide +kernel
theorem dX11_mixService_129 : decode cX11_mixService 129 = .ok (.lstore 5, 2) := by decide +kernel
theorem dX11_mixService_131 : decode cX11_mixService 131 = .ok (.ldc2_w 343, 3) := by decide +kernel
theorem dX11_mixService_134 : decode cX11_mixService 134 = .ok (.lload 5, 2) := by decide +kernel
theorem dX11_mixService_136 : decode cX11_mixService 136 = .ok (.lmul, 1) := by decide +kernel
theorem dX11_mixService_137 : decode cX11_mixService 137 = .ok (.aload 4, 2) := by decide +kernel
theorem dX11_mixService_139 : decode cX11_mixService 139 = .ok (.getfield 295, 3) := by decide +kernel
theorem dX11_mixService_142 : decode cX11_mixService 142 = .ok (.i2l, 1) := by decide +kernel
theorem dX11_mixService_143 : decode cX11_mixService 143 = .ok (.ladd, 1) := by decide +kernel
theorem dX11_mixService_144 : decode cX11_mixService 144 = .ok (.lstore 5, 2) := by decide +kernel
theorem dX11_mixService_146 : decode cX11_mixService 146 = .ok (.ldc2_w 343, 3) := by decide +kernel
theorem dX11_mixService_149 : decode cX11_mixService 149 = .ok (.lload 5, 2) := by decide +kernel
theorem dX11_mixService_151 : decode cX11_mixService 151 = .ok (.lmul, 1) := by decide +kernel
theorem dX11_mixService_152 : decode cX11_mixService 152 = .ok (.aload_n 0, 1) := by decide +kernel
theorem dX11_mixService_153 : decode cX11_mixService 153 = .ok (.getfield 55, 3) := by decide +kernel
theorem dX11_mixService_156 : decode cX11_mixService 156 = .ok (.iload_n 3, 1) := by decide +kernel
theorem dX11_mixService_157 : decode cX11_mixService 157 = .ok (.invokevirtual 301, 3) := by decide +kernel
theorem dX11_mixService_160 : decode cX11_mixService 160 = .ok (.i2l, 1) := by decide +kernel
theorem dX11_mixService_161 : decode cX11_mixService 161 = .ok (.ladd, 1) := by decide +kernel
theorem dX11_mixService_162 : decode cX11_mixService 162 = .ok (.lreturn, 1) := by decide +kernel
theorem dX11_mixCall_0 : decode cX11_mixCall 0 = .ok (.lload_n 0, 1) := by decide +kernel
theorem dX11_mixCall_1 : decode cX11_mixCall 1 = .ok (.lstore_n 3, 1) := by decide +kernel
theorem dX11_mixCall_2 : decode cX11_mixCall 2 = .ok (.iconst 0, 1) := by decide +kernel
theorem dX11_mixCall_3 : decode cX11_mixCall 3 = .ok (.istore 5, 2) := by decide +kernel
theorem dX11_mixCall_5 : decode cX11_mixCall 5 = .ok (.iload 5, 2) := by decide +kernel
theorem dX11_mixCall_7 : decode cX11_mixCall 7 = .ok (.bipush 7, 2) := by decide +kernel
theorem dX11_mixCall_9 : decode cX11_mixCall 9 = .ok (.if_icmp .ge 23, 3) := by decide +kernel
theorem dX11_mixCall_12 : decode cX11_mixCall 12 = .ok (.ldc2_w 343, 3) := by decide +kernel
theorem dX11_mixCall_15 : decode cX11_mixCall 15 = .ok (.lload_n 3, 1) := by decide +kernel
theorem dX11_mixCall_16 : decode cX11_mixCall 16 = .ok (.lmul, 1) := by decide +kernel
theorem dX11_mixCall_17 : decode cX11_mixCall 17 = .ok (.aload_n 2, 1) := by decide +kernel
theorem dX11_mixCall_18 : decode cX11_mixCall 18 = .ok (.iload 5, 2) := by decide +kernel
theorem dX11_mixCall_20 : decode cX11_mixCall 20 = .ok (.invokevirtual 290, 3) := by decide +kernel
theorem dX11_mixCall_23 : decode cX11_mixCall 23 = .ok (.i2l, 1) := by decide +kernel
theorem dX11_mixCall_24 : decode cX11_mixCall 24 = .ok (.ladd, 1) := by decide +kernel
theorem dX11_mixCall_25 : decode cX11_mixCall 25 = .ok (.lstore_n 3, 1) := by decide +kernel
theorem dX11_mixCall_26 : decode cX11_mixCall 26 = .ok (.iinc 5 1, 3) := by decide +kernel
theorem dX11_mixCall_29 : decode cX11_mixCall 29 = .ok (.goto (-24), 3) := by decide +kernel
theorem dX11_mixCall_32 : decode cX11_mixCall 32 = .ok (.iconst 0, 1) := by decide +kernel
theorem dX11_mixCall_33 : decode cX11_mixCall 33 = .ok (.istore 5, 2) := by decide +kernel
theorem dX11_mixCall_35 : decode cX11_mixCall 35 = .ok (.iload 5, 2) := by decide +kernel
theorem dX11_mixCall_37 : decode cX11_mixCall 37 = .ok (.iconst 4, 1) := by decide +kernel
theorem dX11_mixCall_38 : decode cX11_mixCall 38 = .ok (.if_icmp .ge 24, 3) := by decide +kernel
theorem dX11_mixCall_41 : decode cX11_mixCall 41 = .ok (.ldc2_w 343, 3) := by decide +kernel
theorem dX11_mixCall_44 : decode cX11_mixCall 44 = .ok (.lload_n 3, 1) := by decide +kernel
theorem dX11_mixCall_45 : decode cX11_mixCall 45 = .ok (.lmul, 1) := by decide +kernel
theorem dX11_mixCall_46 : decode cX11_mixCall 46 = .ok (.aload_n 2, 1) := by decide +kernel
theorem dX11_mixCall_47 : decode cX11_mixCall 47 = .ok (.getfield 292, 3) := by decide +kernel
theorem dX11_mixCall_50 : decode cX11_mixCall 50 = .ok (.iload 5, 2) := by decide +kernel
theorem dX11_mixCall_52 : decode cX11_mixCall 52 = .ok (.iaload, 1) := by decide +kernel
theorem dX11_mixCall_53 : decode cX11_mixCall 53 = .ok (.i2l, 1) := by decide +kernel
theorem dX11_mixCall_54 : decode cX11_mixCall 54 = .ok (.ladd, 1) := by decide +kernel
theorem dX11_mixCall_55 : decode cX11_mixCall 55 = .ok (.lstore_n 3, 1) := by decide +kernel
theorem dX11_mixCall_56 : decode cX11_mixCall 56 = .ok (.iinc 5 1, 3) := by decide +kernel
theorem dX11_mixCall_59 : decode cX11_mixCall 59 = .ok (.goto (-24), 3) := by decide +kernel
theorem dX11_mixCall_62 : decode cX11_mixCall 62 = .ok (.iconst 0, 1) := by decide +kernel
theorem dX11_mixCall_63 : decode cX11_mixCall 63 = .ok (.istore 5, 2) := by decide +kernel
theorem dX11_mixCall_65 : decode cX11_mixCall 65 = .ok (.iload 5, 2) := by decide +kernel
theorem dX11_mixCall_67 : decode cX11_mixCall 67 = .ok (.iconst 3, 1) := by decide +kernel
theorem dX11_mixCall_68 : decode cX11_mixCall 68 = .ok (.if_icmp .ge 23, 3) := by decide +kernel
theorem dX11_mixCall_71 : decode cX11_mixCall 71 = .ok (.ldc2_w 343, 3) := by decide +kernel
theorem dX11_mixCall_74 : decode cX11_mixCall 74 = .ok (.lload_n 3, 1) := by decide +kernel
theorem dX11_mixCall_75 : decode cX11_mixCall 75 = .ok (.lmul, 1) := by decide +kernel
theorem dX11_mixCall_76 : decode cX11_mixCall 76 = .ok (.aload_n 2, 1) := by decide +kernel
theorem dX11_mixCall_77 : decode cX11_mixCall 77 = .ok (.iload 5, 2) := by decide +kernel
theorem dX11_mixCall_79 : decode cX11_mixCall 79 = .ok (.invokevirtual 324, 3) := by decide +kernel
theorem dX11_mixCall_82 : decode cX11_mixCall 82 = .ok (.i2l, 1) := by decide +kernel
theorem dX11_mixCall_83 : decode cX11_mixCall 83 = .ok (.ladd, 1) := by decide +kernel
theorem dX11_mixCall_84 : decode cX11_mixCall 84 = .ok (.lstore_n 3, 1) := by decide +kernel
theorem dX11_mixCall_85 : decode cX11_mixCall 85 = .ok (.iinc 5 1, 3) := by decide +kernel
theorem dX11_mixCall_88 : decode cX11_mixCall 88 = .ok (.goto (-23), 3) := by decide +kernel
theorem dX11_mixCall_91 : decode cX11_mixCall 91 = .ok (.lload_n 3, 1) := by decide +kernel
theorem dX11_mixCall_92 : decode cX11_mixCall 92 = .ok (.lreturn, 1) := by decide +kernel
theorem dX11_mixRow_0 : decode cX11_mixRow 0 = .ok (.aload_n 2, 1) := by decide +kernel
theorem dX11_mixRow_1 : decode cX11_mixRow 1 = .ok (.getfield 105, 3) := by decide +kernel
theorem dX11_mixRow_4 : decode cX11_mixRow 4 = .ok (.ifCond .ne 11, 3) := by decide +kernel
theorem dX11_mixRow_7 : decode cX11_mixRow 7 = .ok (.ldc2_w 343, 3) := by decide +kernel
theorem dX11_mixRow_10 : decode cX11_mixRow 10 = .ok (.lload_n 0, 1) := by decide +kernel
theorem dX11_mixRow_11 : decode cX11_mixRow 11 = .ok (.lmul, 1) := by decide +kernel
theorem dX11_mixRow_12 : decode cX11_mixRow 12 = .ok (.lconst 1, 1) := by decide +kernel
theorem dX11_mixRow_13 : decode cX11_mixRow 13 = .ok (.lsub, 1) := by decide +kernel
theorem dX11_mixRow_14 : decode cX11_mixRow 14 = .ok (.lreturn, 1) := by decide +kernel
theorem dX11_mixRow_15 : decode cX11_mixRow 15 = .ok (.ldc2_w 343, 3) := by decide +kernel
theorem dX11_mixRow_18 : decode cX11_mixRow 18 = .ok (.lload_n 0, 1) := by decide +kernel
theorem dX11_mixRow_19 : decode cX11_mixRow 19 = .ok (.lmul, 1) := by decide +kernel
theorem dX11_mixRow_20 : decode cX11_mixRow 20 = .ok (.aload_n 2, 1) := by decide +kernel
theorem dX11_mixRow_21 : decode cX11_mixRow 21 = .ok (.getfield 118, 3) := by decide +kernel
theorem dX11_mixRow_24 : decode cX11_mixRow 24 = .ok (.i2l, 1) := by decide +kernel
theorem dX11_mixRow_25 : decode cX11_mixRow 25 = .ok (.ladd, 1) := by decide +kernel
theorem dX11_mixRow_26 : decode cX11_mixRow 26 = .ok (.lstore_n 3, 1) := by decide +kernel
theorem dX11_mixRow_27 : decode cX11_mixRow 27 = .ok (.iconst 0, 1) := by decide +kernel
theorem dX11_mixRow_28 : decode cX11_mixRow 28 = .ok (.istore 5, 2) := by decide +kernel
theorem dX11_mixRow_30 : decode cX11_mixRow 30 = .ok (.iload 5, 2) := by decide +kernel
theorem dX11_mixRow_32 : decode cX11_mixRow 32 = .ok (.aload_n 2, 1) := by decide +kernel
theorem dX11_mixRow_33 : decode cX11_mixRow 33 = .ok (.getfield 118, 3) := by decide +kernel
theorem dX11_mixRow_36 : decode cX11_mixRow 36 = .ok (.if_icmp .ge 24, 3) := by decide +kernel
theorem dX11_mixRow_39 : decode cX11_mixRow 39 = .ok (.ldc2_w 343, 3) := by decide +kernel
theorem dX11_mixRow_42 : decode cX11_mixRow 42 = .ok (.lload_n 3, 1) := by decide +kernel
theorem dX11_mixRow_43 : decode cX11_mixRow 43 = .ok (.lmul, 1) := by decide +kernel
theorem dX11_mixRow_44 : decode cX11_mixRow 44 = .ok (.aload_n 2, 1) := by decide +kernel
theorem dX11_mixRow_45 : decode cX11_mixRow 45 = .ok (.getfield 102, 3) := by decide +kernel
theorem dX11_mixRow_48 : decode cX11_mixRow 48 = .ok (.iload 5, 2) := by decide +kernel
theorem dX11_mixRow_50 : decode cX11_mixRow 50 = .ok (.iaload, 1) := by decide +kernel
theorem dX11_mixRow_51 : decode cX11_mixRow 51 = .ok (.i2l, 1) := by decide +kernel
theorem dX11_mixRow_52 : decode cX11_mixRow 52 = .ok (.ladd, 1) := by decide +kernel
theorem dX11_mixRow_53 : decode cX11_mixRow 53 = .ok (.lstore_n 3, 1) := by decide +kernel
theorem dX11_mixRow_54 : decode cX11_mixRow 54 = .ok (.iinc 5 1, 3) := by decide +kernel
theorem dX11_mixRow_57 : decode cX11_mixRow 57 = .ok (.goto (-27), 3) := by decide +kernel
theorem dX11_mixRow_60 : decode cX11_mixRow 60 = .ok (.lload_n 3, 1) := by decide +kernel
theorem dX11_mixRow_61 : decode cX11_mixRow 61 = .ok (.lreturn, 1) := by decide +kernel
theorem dX12_init_0 : decode cX12_init 0 = .ok (.aload_n 0, 1) := by decide +kernel
theorem dX12_init_1 : decode cX12_init 1 = .ok (.invokespecial 1, 3) := by decide +kernel
theorem dX12_init_4 : decode cX12_init 4 = .ok (.aload_n 0, 1) := by decide +kernel
theorem dX12_init_5 : decode cX12_init 5 = .ok (.bipush 6, 2) := by decide +kernel
theorem dX12_init_7 : decode cX12_init 7 = .ok (.newarray .int, 2) := by decide +kernel
theorem dX12_init_9 : decode cX12_init 9 = .ok (.putfield 7, 3) := by decide +kernel
theorem dX12_init_12 : decode cX12_init 12 = .ok (.aload_n 0, 1) := by decide +kernel
theorem dX12_init_13 : decode cX12_init 13 = .ok (.lconst 1, 1) := by decide +kernel
theorem dX12_init_14 : decode cX12_init 14 = .ok (.putfield 13, 3) := by decide +kernel
theorem dX12_init_17 : decode cX12_init 17 = .ok (.aload_n 0, 1) := by decide +kernel
theorem dX12_init_18 : decode cX12_init 18 = .ok (.bipush 6, 2) := by decide +kernel
theorem dX12_init_20 : decode cX12_init 20 = .ok (.newarray .int, 2) := by decide +kernel
theorem dX12_init_22 : decode cX12_init 22 = .ok (.putfield 17, 3) := by decide +kernel
theorem dX12_init_25 : decode cX12_init 25 = .ok (.aload_n 0, 1) := by decide +kernel
theorem dX12_init_26 : decode cX12_init 26 = .ok (.sipush 360, 3) := by decide +kernel
theorem dX12_init_29 : decode cX12_init 29 = .ok (.newarray .int, 2) := by decide +kernel
theorem dX12_init_31 : decode cX12_init 31 = .ok (.putfield 20, 3) := by decide +kernel
theorem dX12_init_34 : decode cX12_init 34 = .ok (.aload_n 0, 1) := by decide +kernel
theorem dX12_init_35 : decode cX12_init 35 = .ok (.bipush 60, 2) := by decide +kernel
theorem dX12_init_37 : decode cX12_init 37 = .ok (.newarray .int, 2) := by decide +kernel
theorem dX12_init_39 : decode cX12_init 39 = .ok (.putfield 23, 3) := by decide +kernel
theorem dX12_init_42 : decode cX12_init 42 = .ok (.aload_n 0, 1) := by decide +kernel
theorem dX12_init_43 : decode cX12_init 43 = .ok (.bipush 6, 2) := by decide +kernel
theorem dX12_init_45 : decode cX12_init 45 = .ok (.newarray .int, 2) := by decide +kernel
theorem dX12_init_47 : decode cX12_init 47 = .ok (.putfield 26, 3) := by decide +kernel
theorem dX12_init_50 : decode cX12_init 50 = .ok (.aload_n 0, 1) := by decide +kernel
theorem dX12_init_51 : decode cX12_init 51 = .ok (.sipush 360, 3) := by decide +kernel
theorem dX12_init_54 : decode cX12_init 54 = .ok (.newarray .int, 2) := by decide +kernel
theorem dX12_init_56 : decode cX12_init 56 = .ok (.putfield 29, 3) := by decide +kernel
theorem dX12_init_59 : decode cX12_init 59 = .ok (.aload_n 0, 1) := by decide +kernel
theorem dX12_init_60 : decode cX12_init 60 = .ok (.iconst 4, 1) := by decide +kernel
theorem dX12_init_61 : decode cX12_init 61 = .ok (.newarray .int, 2) := by decide +kernel
theorem dX12_init_63 : decode cX12_init 63 = .ok (.putfield 32, 3) := by decide +kernel
theorem dX12_init_66 : decode cX12_init 66 = .ok (.aload_n 0, 1) := by decide +kernel
theorem dX12_init_67 : decode cX12_init 67 = .ok (.sipush 288, 3) := by decide +kernel
theorem dX12_init_70 : decode cX12_init 70 = .ok (.newarray .int, 2) := by decide +kernel
theorem dX12_init_72 : decode cX12_init 72 = .ok (.putfield 35, 3) := by decide +kernel
theorem dX12_init_75 : decode cX12_init 75 = .ok (.aload_n 0, 1) := by decide +kernel
theorem dX12_init_76 : decode cX12_init 76 = .ok (.bipush 72, 2) := by decide +kernel
theorem dX12_init_78 : decode cX12_init 78 = .ok (.newarray .int, 2) := by decide +kernel
theorem dX12_init_80 : decode cX12_init 80 = .ok (.putfield 38, 3) := by decide +kernel
theorem dX12_init_83 : decode cX12_init 83 = .ok (.aload_n 0, 1) := by decide +kernel
theorem dX12_init_84 : decode cX12_init 84 = .ok (.sipush 400, 3) := by decide +kernel
theorem dX12_init_87 : decode cX12_init 87 = .ok (.newarray .int, 2) := by decide +kernel
theorem dX12_init_89 : decode cX12_init 89 = .ok (.putfield 41, 3) := by decide +kernel
theorem dX12_init_92 : decode cX12_init 92 = .ok (.aload_n 0, 1) := by decide +kernel
theorem dX12_init_93 : decode cX12_init 93 = .ok (.bipush 16, 2) := by decide +kernel
theorem dX12_init_95 : decode cX12_init 95 = .ok (.newarray .int, 2) := by decide +kernel
theorem dX12_init_97 : decode cX12_init 97 = .ok (.putfield 44, 3) := by decide +kernel
theorem dX12_init_100 : decode cX12_init 100 = .ok (.aload_n 0, 1) := by decide +kernel
theorem dX12_init_101 : decode cX12_init 101 = .ok (.bipush 60, 2) := by decide +kernel
theorem dX12_init_103 : decode cX12_init 103 = .ok (.newarray .int, 2) := by decide +kernel
theorem dX12_init_105 : decode cX12_init 105 = .ok (.putfield 47, 3) := by decide +kernel
theorem dX12_init_108 : decode cX12_init 108 = .ok (.aload_n 0, 1) := by decide +kernel
theorem dX12_init_109 : decode cX12_init 109 = .ok (.iconst 3, 1) := by decide +kernel
theorem dX12_init_110 : decode cX12_init 110 = .ok (.newarray .int, 2) := by decide +kernel
theorem dX12_init_112 : decode cX12_init 112 = .ok (.putfield 50, 3) := by decide +kernel
theorem dX12_init_115 : decode cX12_init 115 = .ok (.aload_n 0, 1) := by decide +kernel
theorem dX12_init_116 : decode cX12_init 116 = .ok (.bipush 60, 2) := by decide +kernel
theorem dX12_init_118 : decode cX12_init 118 = .ok (.newarray .int, 2) := by decide +kernel
theorem dX12_init_120 : decode cX12_init 120 = .ok (.putfield 53, 3) := by decide +kernel
theorem dX12_init_123 : decode cX12_init 123 = .ok (.aload_n 0, 1) := by decide +kernel
theorem dX12_init_124 : decode cX12_init 124 = .ok (.bipush 6, 2) := by decide +kernel
theorem dX12_init_126 : decode cX12_init 126 = .ok (.newarray .int, 2) := by decide +kernel
theorem dX12_init_128 : decode cX12_init 128 = .ok (.putfield 56, 3) := by decide +kernel
theorem dX12_init_131 : decode cX12_init 131 = .ok (.aload_n 0, 1) := by decide +kernel
theorem dX12_init_132 : decode cX12_init 132 = .ok (.bipush 6, 2) := by decide +kernel
theorem dX12_init_134 : decode cX12_init 134 = .ok (.newarray .int, 2) := by decide +kernel
theorem dX12_init_136 : decode cX12_init 136 = .ok (.putfield 59, 3) := by decide +kernel
theorem dX12_init_139 : decode cX12_init 139 = .ok (.aload_n 0, 1) := by decide +kernel
theorem dX12_init_140 : decode cX12_init 140 = .ok (.bipush 36, 2) := by decide +kernel
theorem dX12_init_142 : decode cX12_init 142 = .ok (.newarray .int, 2) := by decide +kernel
theorem dX12_init_144 : decode cX12_init 144 = .ok (.putfield 62, 3) := by decide +kernel
theorem dX12_init_147 : decode cX12_init 147 = .ok (.aload_n 0, 1) := by decide +kernel
theorem dX12_init_148 : decode cX12_init 148 = .ok (.bipush 64, 2) := by decide +kernel
theorem dX12_init_150 : decode cX12_init 150 = .ok (.newarray .boolean, 2) := by decide +kernel
theorem dX12_init_152 : decode cX12_init 152 = .ok (.putfield 65, 3) := by decide +kernel
theorem dX12_init_155 : decode cX12_init 155 = .ok (.aload_n 0, 1) := by decide +kernel
theorem dX12_init_156 : decode cX12_init 156 = .ok (.bipush 64, 2) := by decide +kernel
theorem dX12_init_158 : decode cX12_init 158 = .ok (.newarray .boolean, 2) := by decide +kernel
theorem dX12_init_160 : decode cX12_init 160 = .ok (.putfield 69, 3) := by decide +kernel
theorem dX12_init_163 : decode cX12_init 163 = .ok (.aload_n 0, 1) := by decide +kernel
theorem dX12_init_164 : decode cX12_init 164 = .ok (.bipush 6, 2) := by decide +kernel
theorem dX12_init_166 : decode cX12_init 166 = .ok (.newarray .int, 2) := by decide +kernel
theorem dX12_init_168 : decode cX12_init 168 = .ok (.putfield 72, 3) := by decide +kernel
theorem dX12_init_171 : decode cX12_init 171 = .ok (.aload_n 0, 1) := by decide +kernel
theorem dX12_init_172 : decode cX12_init 172 = .ok (.bipush 6, 2) := by decide +kernel
theorem dX12_init_174 : decode cX12_init 174 = .ok (.newarray .int, 2) := by decide +kernel
theorem dX12_init_176 : decode cX12_init 176 = .ok (.putfield 75, 3) := by decide +kernel
theorem dX12_init_179 : decode cX12_init 179 = .ok (.aload_n 0, 1) := by decide +kernel
theorem dX12_init_180 : decode cX12_init 180 = .ok (.bipush 6, 2) := by decide +kernel
theorem dX12_init_182 : decode cX12_init 182 = .ok (.newarray .int, 2) := by decide +kernel
theorem dX12_init_184 : decode cX12_init 184 = .ok (.putfield 78, 3) := by decide +kernel
theorem dX12_init_187 : decode cX12_init 187 = .ok (.aload_n 0, 1) := by decide +kernel
theorem dX12_init_188 : decode cX12_init 188 = .ok (.bipush 30, 2) := by decide +kernel
theorem dX12_init_190 : decode cX12_init 190 = .ok (.newarray .int, 2) := by decide +kernel
theorem dX12_init_192 : decode cX12_init 192 = .ok (.putfield 81, 3) := by decide +kernel
theorem dX12_init_195 : decode cX12_init 195 = .ok (.aload_n 0, 1) := by decide +kernel
theorem dX12_init_196 : decode cX12_init 196 = .ok (.bipush 30, 2) := by decide +kernel
theorem dX12_init_198 : decode cX12_init 198 = .ok (.newarray .int, 2) := by decide +kernel
theorem dX12_init_200 : decode cX12_init 200 = .ok (.putfield 84, 3) := by decide +kernel
theorem dX12_init_203 : decode cX12_init 203 = .ok (.aload_n 0, 1) := by decide +kernel
theorem dX12_init_204 : decode cX12_init 204 = .ok (.bipush 30, 2) := by decide +kernel
theorem dX12_init_206 : decode cX12_init 206 = .ok (.newarray .int, 2) := by decide +kernel
theorem dX12_init_208 : decode cX12_init 208 = .ok (.putfield 87, 3) := by decide +kernel
theorem dX12_init_211 : decode cX12_init 211 = .ok (.aload_n 0, 1) := by decide +kernel
theorem dX12_init_212 : decode cX12_init 212 = .ok (.bipush 30, 2) := by decide +kernel
theorem dX12_init_214 : decode cX12_init 214 = .ok (.newarray .int, 2) := by decide +kernel
theorem dX12_init_216 : decode cX12_init 216 = .ok (.putfield 90, 3) := by decide +kernel
theorem dX12_init_219 : decode cX12_init 219 = .ok (.aload_n 0, 1) := by decide +kernel
theorem dX12_init_220 : decode cX12_init 220 = .ok (.bipush 30, 2) := by decide +kernel
theorem dX12_init_222 : decode cX12_init 222 = .ok (.newarray .int, 2) := by decide +kernel
theorem dX12_init_224 : decode cX12_init 224 = .ok (.putfield 93, 3) := by decide +kernel
theorem dX12_init_227 : decode cX12_init 227 = .ok (.aload_n 0, 1) := by decide +kernel
theorem dX12_init_228 : decode cX12_init 228 = .ok (.bipush 30, 2) := by decide +kernel
theorem dX12_init_230 : decode cX12_init 230 = .ok (.newarray .int, 2) := by decide +kernel
theorem dX12_init_232 : decode cX12_init 232 = .ok (.putfield 96, 3) := by decide +kernel
theorem dX12_init_235 : decode cX12_init 235 = .ok (.aload_n 0, 1) := by decide +kernel
theorem dX12_init_236 : decode cX12_init 236 = .ok (.bipush 30, 2) := by decide +kernel
theorem dX12_init_238 : decode cX12_init 238 = .ok (.newarray .int, 2) := by decide +kernel
theorem dX12_init_240 : decode cX12_init 240 = .ok (.putfield 99, 3) := by decide +kernel
theorem dX12_init_243 : decode cX12_init 243 = .ok (.aload_n 0, 1) := by decide +kernel
theorem dX12_init_244 : decode cX12_init 244 = .ok (.bipush 30, 2) := by decide +kernel
theorem dX12_init_246 : decode cX12_init 246 = .ok (.newarray .int, 2) := by decide +kernel
theorem dX12_init_248 : decode cX12_init 248 = .ok (.putfield 102, 3) := by decide +kernel
theorem dX12_init_251 : decode cX12_init 251 = .ok (.aload_n 0, 1) := by decide +kernel
theorem dX12_init_252 : decode cX12_init 252 = .ok (.bipush 30, 2) := by decide +kernel
theorem dX12_init_254 : decode cX12_init 254 = .ok (.newarray .int, 2) := by decide +kernel
theorem dX12_init_256 : decode cX12_init 256 = .ok (.putfield 105, 3) := by decide +kernel
theorem dX12_init_259 : decode cX12_init 259 = .ok (.aload_n 0, 1) := by decide +kernel
theorem dX12_init_260 : decode cX12_init 260 = .ok (.bipush 30, 2) := by decide +kernel
theorem dX12_init_262 : decode cX12_init 262 = .ok (.newarray .int, 2) := by decide +kernel
theorem dX12_init_264 : decode cX12_init 264 = .ok (.putfield 108, 3) := by decide +kernel
theorem dX12_init_267 : decode cX12_init 267 = .ok (.aload_n 0, 1) := by decide +kernel
theorem dX12_init_268 : decode cX12_init 268 = .ok (.bipush 30, 2) := by decide +kernel
theorem dX12_init_270 : decode cX12_init 270 = .ok (.newarray .int, 2) := by decide +kernel
theorem dX12_init_272 : decode cX12_init 272 = .ok (.putfield 111, 3) := by decide +kernel
theorem dX12_init_275 : decode cX12_init 275 = .ok (.aload_n 0, 1) := by decide +kernel
theorem dX12_init_276 : decode cX12_init 276 = .ok (.bipush 30, 2) := by decide +kernel
theorem dX12_init_278 : decode cX12_init 278 = .ok (.newarray .int, 2) := by decide +kernel
theorem dX12_init_280 : decode cX12_init 280 = .ok (.putfield 114, 3) := by decide +kernel
theorem dX12_init_283 : decode cX12_init 283 = .ok (.aload_n 0, 1) := by decide +kernel
theorem dX12_init_284 : decode cX12_init 284 = .ok (.bipush 30, 2) := by decide +kernel
theorem dX12_init_286 : decode cX12_init 286 = .ok (.newarray .int, 2) := by decide +kernel
theorem dX12_init_288 : decode cX12_init 288 = .ok (.putfield 117, 3) := by decide +kernel
theorem dX12_init_291 : decode cX12_init 291 = .ok (.aload_n 0, 1) := by decide +kernel
theorem dX12_init_292 : decode cX12_init 292 = .ok (.bipush 30, 2) := by decide +kernel
theorem dX12_init_294 : decode cX12_init 294 = .ok (.newarray .int, 2) := by decide +kernel
theorem dX12_init_296 : decode cX12_init 296 = .ok (.putfield 120, 3) := by decide +kernel
theorem dX12_init_299 : decode cX12_init 299 = .ok (.aload_n 0, 1) := by decide +kernel
theorem dX12_init_300 : decode cX12_init 300 = .ok (.bipush 30, 2) := by decide +kernel
theorem dX12_init_302 : decode cX12_init 302 = .ok (.newarray .int, 2) := by decide +kernel
theorem dX12_init_304 : decode cX12_init 304 = .ok (.putfield 123, 3) := by decide +kernel
theorem dX12_init_307 : decode cX12_init 307 = .ok (.aload_n 0, 1) := by decide +kernel
theorem dX12_init_308 : decode cX12_init 308 = .ok (.bipush 120, 2) := by decide +kernel
theorem dX12_init_310 : decode cX12_init 310 = .ok (.newarray .int, 2) := by decide +kernel
theorem dX12_init_312 : decode cX12_init 312 = .ok (.putfield 126, 3) := by decide +kernel
theorem dX12_init_315 : decode cX12_init 315 = .ok (.aload_n 0, 1) := by decide +kernel
theorem dX12_init_316 : decode cX12_init 316 = .ok (.bipush 30, 2) := by decide +kernel
theorem dX12_init_318 : decode cX12_init 318 = .ok (.newarray .int, 2) := by decide +kernel
theorem dX12_init_320 : decode cX12_init 320 = .ok (.putfield 129, 3) := by decide +kernel
theorem dX12_init_323 : decode cX12_init 323 = .ok (.aload_n 0, 1) := by decide +kernel
theorem dX12_init_324 : decode cX12_init 324 = .ok (.bipush 30, 2) := by decide +kernel
theorem dX12_init_326 : decode cX12_init 326 = .ok (.newarray .int, 2) := by decide +kernel
theorem dX12_init_328 : decode cX12_init 328 = .ok (.putfield 132, 3) := by decide +kernel
theorem dX12_init_331 : decode cX12_init 331 = .ok (.aload_n 0, 1) := by decide +kernel
theorem dX12_init_332 : decode cX12_init 332 = .ok (.bipush 30, 2) := by decide +kernel
theorem dX12_init_334 : decode cX12_init 334 = .ok (.newarray .int, 2) := by decide +kernel
theorem dX12_init_336 : decode cX12_init 336 = .ok (.putfield 135, 3) := by decide +kernel
theorem dX12_init_339 : decode cX12_init 339 = .ok (.aload_n 0, 1) := by decide +kernel
theorem dX12_init_340 : decode cX12_init 340 = .ok (.sipush 1200, 3) := by decide +kernel
theorem dX12_init_343 : decode cX12_init 343 = .ok (.newarray .int, 2) := by decide +kernel
theorem dX12_init_345 : decode cX12_init 345 = .ok (.putfield 138, 3) := by decide +kernel
theorem dX12_init_348 : decode cX12_init 348 = .ok (.aload_n 0, 1) := by decide +kernel
theorem dX12_init_349 : decode cX12_init 349 = .ok (.sipush 1200, 3) := by decide +kernel
theorem dX12_init_352 : decode cX12_init 352 = .ok (.newarray .int, 2) := by decide +kernel
theorem dX12_init_354 : decode cX12_init 354 = .ok (.putfield 141, 3) := by decide +kernel
theorem dX12_init_357 : decode cX12_init 357 = .ok (.aload_n 0, 1) := by decide +kernel
theorem dX12_init_358 : decode cX12_init 358 = .ok (.sipush 1200, 3) := by decide +kernel
theorem dX12_init_361 : decode cX12_init 361 = .ok (.newarray .int, 2) := by decide +kernel
theorem dX12_init_363 : decode cX12_init 363 = .ok (.putfield 144, 3) := by decide +kernel
theorem dX12_init_366 : decode cX12_init 366 = .ok (.aload_n 0, 1) := by decide +kernel
theorem dX12_init_367 : decode cX12_init 367 = .ok (.sipush 1200, 3) := by decide +kernel
theorem dX12_init_370 : decode cX12_init 370 = .ok (.newarray .int, 2) := by decide +kernel
theorem dX12_init_372 : decode cX12_init 372 = .ok (.putfield 147, 3) := by decide +kernel
theorem dX12_init_375 : decode cX12_init 375 = .ok (.aload_n 0, 1) := by decide +kernel
theorem dX12_init_376 : decode cX12_init 376 = .ok (.sipush 1200, 3) := by decide +kernel
theorem dX12_init_379 : decode cX12_init 379 = .ok (.newarray .int, 2) := by decide +kernel
theorem dX12_init_381 : decode cX12_init 381 = .ok (.putfield 150, 3) := by decide +kernel
theorem dX12_init_384 : decode cX12_init 384 = .ok (.aload_n 0, 1) := by decide +kernel
theorem dX12_init_385 : decode cX12_init 385 = .ok (.sipush 1200, 3) := by decide +kernel
theorem dX12_init_388 : decode cX12_init 388 = .ok (.newarray .int, 2) := by decide +kernel
theorem dX12_init_390 : decode cX12_init 390 = .ok (.putfield 153, 3) := by decide +kernel
theorem dX12_init_393 : decode cX12_init 393 = .ok (.aload_n 0, 1) := by decide +kernel
theorem dX12_init_394 : decode cX12_init 394 = .ok (.sipush 1200, 3) := by decide +kernel
theorem dX12_init_397 : decode cX12_init 397 = .ok (.newarray .int, 2) := by decide +kernel
theorem dX12_init_399 : decode cX12_init 399 = .ok (.putfield 156, 3) := by decide +kernel
theorem dX12_init_402 : decode cX12_init 402 = .ok (.aload_n 0, 1) := by decide +kernel
theorem dX12_init_403 : decode cX12_init 403 = .ok (.bipush 20, 2) := by decide +kernel
theorem dX12_init_405 : decode cX12_init 405 = .ok (.newarray .int, 2) := by decide +kernel
theorem dX12_init_407 : decode cX12_init 407 = .ok (.putfield 159, 3) := by decide +kernel
theorem dX12_init_410 : decode cX12_init 410 = .ok (.aload_n 0, 1) := by decide +kernel
theorem dX12_init_411 : decode cX12_init 411 = .ok (.bipush 20, 2) := by decide +kernel
theorem dX12_init_413 : decode cX12_init 413 = .ok (.newarray .int, 2) := by decide +kernel
theorem dX12_init_415 : decode cX12_init 415 = .ok (.putfield 162, 3) := by decide +kernel
theorem dX12_init_418 : decode cX12_init 418 = .ok (.aload_n 0, 1) := by decide +kernel
theorem dX12_init_419 : decode cX12_init 419 = .ok (.bipush 20, 2) := by decide +kernel
theorem dX12_init_421 : decode cX12_init 421 = .ok (.newarray .int, 2) := by decide +kernel
theorem dX12_init_423 : decode cX12_init 423 = .ok (.putfield 165, 3) := by decide +kernel
theorem dX12_init_426 : decode cX12_init 426 = .ok (.iconst 0, 1) := by decide +kernel
theorem dX12_init_427 : decode cX12_init 427 = .ok (.istore_n 1, 1) := by decide +kernel
theorem dX12_init_428 : decode cX12_init 428 = .ok (.iload_n 1, 1) := by decide +kernel
theorem dX12_init_429 : decode cX12_init 429 = .ok (.bipush 6, 2) := by decide +kernel
theorem dX12_init_431 : decode cX12_init 431 = .ok (.if_icmp .ge 47, 3) := by decide +kernel
theorem dX12_init_434 : decode cX12_init 434 = .ok (.aload_n 0, 1) := by decide +kernel
theorem dX12_init_435 : decode cX12_init 435 = .ok (.getfield 17, 3) := by decide +kernel
theorem dX12_init_438 : decode cX12_init 438 = .ok (.iload_n 1, 1) := by decide +kernel
theorem dX12_init_439 : decode cX12_init 439 = .ok (.bipush (-9), 2) := by decide +kernel
theorem dX12_init_441 : decode cX12_init 441 = .ok (.iastore, 1) := by decide +kernel
theorem dX12_init_442 : decode cX12_init 442 = .ok (.aload_n 0, 1) := by decide +kernel
theorem dX12_init_443 : decode cX12_init 443 = .ok (.getfield 26, 3) := by decide +kernel
theorem dX12_init_446 : decode cX12_init 446 = .ok (.iload_n 1, 1) := by decide +kernel
theorem dX12_init_447 : decode cX12_init 447 = .ok (.bipush (-9), 2) := by decide +kernel
theorem dX12_init_449 : decode cX12_init 449 = .ok (.iastore, 1) := by decide +kernel
theorem dX12_init_450 : decode cX12_init 450 = .ok (.aload_n 0, 1) := by decide +kernel
theorem dX12_init_451 : decode cX12_init 451 = .ok (.getfield 72, 3) := by decide +kernel
theorem dX12_init_454 : decode cX12_init 454 = .ok (.iload_n 1, 1) := by decide +kernel
theorem dX12_init_455 : decode cX12_init 455 = .ok (.iconst 1, 1) := by decide +kernel
theorem dX12_init_456 : decode cX12_init 456 = .ok (.iastore, 1) := by decide +kernel
theorem dX12_init_457 : decode cX12_init 457 = .ok (.aload_n 0, 1) := by decide +kernel
theorem dX12_init_458 : decode cX12_init 458 = .ok (.getfield 75, 3) := by decide +kernel
theorem dX12_init_461 : decode cX12_init 461 = .ok (.iload_n 1, 1) := by decide +kernel
theorem dX12_init_462 : decode cX12_init 462 = .ok (.iconst 3, 1) := by decide +kernel
theorem dX12_init_463 : decode cX12_init 463 = .ok (.iastore, 1) := by decide +kernel
theorem dX12_init_464 : decode cX12_init 464 = .ok (.aload_n 0, 1) := by decide +kernel
theorem dX12_init_465 : decode cX12_init 465 = .ok (.getfield 78, 3) := by decide +kernel
theorem dX12_init_468 : decode cX12_init 468 = .ok (.iload_n 1, 1) := by decide +kernel
theorem dX12_init_469 : decode cX12_init 469 = .ok (.bipush 20, 2) := by decide +kernel
theorem dX12_init_471 : decode cX12_init 471 = .ok (.iastore, 1) := by decide +kernel
theorem dX12_init_472 : decode cX12_init 472 = .ok (.iinc 1 1, 3) := by decide +kernel
theorem dX12_init_475 : decode cX12_init 475 = .ok (.goto (-47), 3) := by decide +kernel
theorem dX12_init_478 : decode cX12_init 478 = .ok (.iconst 0, 1) := by decide +kernel
theorem dX12_init_479 : decode cX12_init 479 = .ok (.istore_n 1, 1) := by decide +kernel
theorem dX12_init_480 : decode cX12_init 480 = .ok (.iload_n 1, 1) := by decide +kernel
theorem dX12_init_481 : decode cX12_init 481 = .ok (.bipush 36, 2) := by decide +kernel
theorem dX12_init_483 : decode cX12_init 483 = .ok (.if_icmp .ge 17, 3) := by decide +kernel
theorem dX12_init_486 : decode cX12_init 486 = .ok (.aload_n 0, 1) := by decide +kernel
theorem dX12_init_487 : decode cX12_init 487 = .ok (.getfield 62, 3) := by decide +kernel
theorem dX12_init_490 : decode cX12_init 490 = .ok (.iload_n 1, 1) := by decide +kernel
theorem dX12_init_491 : decode cX12_init 491 = .ok (.bipush (-9), 2) := by decide +kernel
theorem dX12_init_493 : decode cX12_init 493 = .ok (.iastore, 1) := by decide +kernel
theorem dX12_init_494 : decode cX12_init 494 = .ok (.iinc 1 1, 3) := by decide +kernel
theorem dX12_init_497 : decode cX12_init 497 = .ok (.goto (-17), 3) := by decide +kernel
theorem dX12_init_500 : decode cX12_init 500 = .ok (.iconst 0, 1) := by decide +kernel
theorem dX12_init_501 : decode cX12_init 501 = .ok (.istore_n 1, 1) := by decide +kernel
theorem dX12_init_502 : decode cX12_init 502 = .ok (.iload_n 1, 1) := by decide +kernel
theorem dX12_init_503 : decode cX12_init 503 = .ok (.iconst 4, 1) := by decide +kernel
theorem dX12_init_504 : decode cX12_init 504 = .ok (.if_icmp .ge 17, 3) := by decide +kernel
theorem dX12_init_507 : decode cX12_init 507 = .ok (.aload_n 0, 1) := by decide +kernel
theorem dX12_init_508 : decode cX12_init 508 = .ok (.getfield 32, 3) := by decide +kernel
theorem dX12_init_511 : decode cX12_init 511 = .ok (.iload_n 1, 1) := by decide +kernel
theorem dX12_init_512 : decode cX12_init 512 = .ok (.bipush (-9), 2) := by decide +kernel
theorem dX12_init_514 : decode cX12_init 514 = .ok (.iastore, 1) := by decide +kernel
theorem dX12_init_515 : decode cX12_init 515 = .ok (.iinc 1 1, 3) := by decide +kernel
theorem dX12_init_518 : decode cX12_init 518 = .ok (.goto (-16), 3) := by decide +kernel
theorem dX12_init_521 : decode cX12_init 521 = .ok (.return_, 1) := by decide +kernel
theorem dX12_in_0 : decode cX12_in 0 = .ok (.iload_n 0, 1) := by decide +kernel
theorem dX12_in_1 : decode cX12_in 1 = .ok (.iload_n 1, 1) := by decide +kernel
theorem dX12_in_2 : decode cX12_in 2 = .ok (.if_icmp .lt 12, 3) := by decide +kernel
theorem dX12_in_5 : decode cX12_in 5 = .ok (.iload_n 0, 1) := by decide +kernel
theorem dX12_in_6 : decode cX12_in 6 = .ok (.iload_n 2, 1) := by decide +kernel
theorem dX12_in_7 : decode cX12_in 7 = .ok (.if_icmp .gt 7, 3) := by decide +kernel
theorem dX12_in_10 : decode cX12_in 10 = .ok (.iconst 1, 1) := by decide +kernel
theorem dX12_in_11 : decode cX12_in 11 = .ok (.goto 4, 3) := by decide +kernel
theorem dX12_in_14 : decode cX12_in 14 = .ok (.iconst 0, 1) := by decide +kernel
theorem dX12_in_15 : decode cX12_in 15 = .ok (.ireturn, 1) := by decide +kernel
theorem dX12_meets_0 : decode cX12_meets 0 = .ok (.aload_n 0, 1) := by decide +kernel
theorem dX12_meets_1 : decode cX12_meets 1 = .ok (.iload_n 1, 1) := by decide +kernel
theorem dX12_meets_2 : decode cX12_meets 2 = .ok (.putfield 168, 3) := by decide +kernel
theorem dX12_meets_5 : decode cX12_meets 5 = .ok (.aload_n 0, 1) := by decide +kernel
theorem dX12_meets_6 : decode cX12_meets 6 = .ok (.getfield 7, 3) := by decide +kernel
theorem dX12_meets_9 : decode cX12_meets 9 = .ok (.iload_n 1, 1) := by decide +kernel
theorem dX12_meets_10 : decode cX12_meets 10 = .ok (.dup2, 1) := by decide +kernel
theorem dX12_meets_11 : decode cX12_meets 11 = .ok (.iaload, 1) := by decide +kernel
theorem dX12_meets_12 : decode cX12_meets 12 = .ok (.iconst 1, 1) := by decide +kernel
theorem dX12_meets_13 : decode cX12_meets 13 = .ok (.iadd, 1) := by decide +kernel
theorem dX12_meets_14 : decode cX12_meets 14 = .ok (.iastore, 1) := by decide +kernel
theorem dX12_meets_15 : decode cX12_meets 15 = .ok (.bipush (-3), 2) := by decide +kernel
theorem dX12_meets_17 : decode cX12_meets 17 = .ok (.ireturn, 1) := by decide +kernel
theorem dX12_ask_0 : decode cX12_ask 0 = .ok (.aload_n 0, 1) := by decide +kernel
theorem dX12_ask_1 : decode cX12_ask 1 = .ok (.iload_n 1, 1) := by decide +kernel
theorem dX12_ask_2 : decode cX12_ask 2 = .ok (.putfield 172, 3) := by decide +kernel
theorem dX12_ask_5 : decode cX12_ask 5 = .ok (.iload_n 2, 1) := by decide +kernel
theorem dX12_ask_6 : decode cX12_ask 6 = .ok (.ireturn, 1) := by decide +kernel
theorem dX12_has_0 : decode cX12_has 0 = .ok (.iload_n 0, 1) := by decide +kernel
theorem dX12_has_1 : decode cX12_has 1 = .ok (.iload_n 1, 1) := by decide +kernel
theorem dX12_has_2 : decode cX12_has 2 = .ok (.ishr, 1) := by decide +kernel
theorem dX12_has_3 : decode cX12_has 3 = .ok (.iconst 1, 1) := by decide +kernel
theorem dX12_has_4 : decode cX12_has 4 = .ok (.iand, 1) := by decide +kernel
theorem dX12_has_5 : decode cX12_has 5 = .ok (.iconst 1, 1) := by decide +kernel
theorem dX12_has_6 : decode cX12_has 6 = .ok (.if_icmp .ne 7, 3) := by decide +kernel
theorem dX12_has_9 : decode cX12_has 9 = .ok (.iconst 1, 1) := by decide +kernel
theorem dX12_has_10 : decode cX12_has 10 = .ok (.goto 4, 3) := by decide +kernel
theorem dX12_has_13 : decode cX12_has 13 = .ok (.iconst 0, 1) := by decide +kernel
