theorem dX10_init_0 : decode cX10_init 0 = .ok (.aload_n 0, 1) := by decide +kernel
theorem dX10_init_1 : decode cX10_init 1 = .ok (.invokespecial 1, 3) := by decide +kernel
theorem dX10_init_4 : decode cX10_init 4 = .ok (.aload_n 0, 1) := by decide +kernel
theorem dX10_init_5 : decode cX10_init 5 = .ok (.bipush 6, 2) := by decide +kernel
theorem dX10_init_7 : decode cX10_init 7 = .ok (.anewarray 9, 3) := by decide +kernel
theorem dX10_init_10 : decode cX10_init 10 = .ok (.putfield 11, 3) := by decide +kernel
theorem dX10_init_13 : decode cX10_init 13 = .ok (.aload_n 0, 1) := by decide +kernel
theorem dX10_init_14 : decode cX10_init 14 = .ok (.iconst 4, 1) := by decide +kernel
theorem dX10_init_15 : decode cX10_init 15 = .ok (.anewarray 9, 3) := by decide +kernel
theorem dX10_init_18 : decode cX10_init 18 = .ok (.putfield 15, 3) := by decide +kernel
theorem dX10_init_21 : decode cX10_init 21 = .ok (.aload_n 0, 1) := by decide +kernel
theorem dX10_init_22 : decode cX10_init 22 = .ok (.new 18, 3) := by decide +kernel
theorem dX10_init_25 : decode cX10_init 25 = .ok (.dup, 1) := by decide +kernel
theorem dX10_init_26 : decode cX10_init 26 = .ok (.invokespecial 20, 3) := by decide +kernel
theorem dX10_init_29 : decode cX10_init 29 = .ok (.putfield 21, 3) := by decide +kernel
theorem dX10_init_32 : decode cX10_init 32 = .ok (.aload_n 0, 1) := by decide +kernel
theorem dX10_init_33 : decode cX10_init 33 = .ok (.new 25, 3) := by decide +kernel
theorem dX10_init_36 : decode cX10_init 36 = .ok (.dup, 1) := by decide +kernel
theorem dX10_init_37 : decode cX10_init 37 = .ok (.invokespecial 27, 3) := by decide +kernel
theorem dX10_init_40 : decode cX10_init 40 = .ok (.putfield 28, 3) := by decide +kernel
theorem dX10_init_43 : decode cX10_init 43 = .ok (.aload_n 0, 1) := by decide +kernel
theorem dX10_init_44 : decode cX10_init 44 = .ok (.iconst 3, 1) := by decide +kernel
theorem dX10_init_45 : decode cX10_init 45 = .ok (.anewarray 25, 3) := by decide +kernel
theorem dX10_init_48 : decode cX10_init 48 = .ok (.putfield 32, 3) := by decide +kernel
theorem dX10_init_51 : decode cX10_init 51 = .ok (.aload_n 0, 1) := by decide +kernel
theorem dX10_init_52 : decode cX10_init 52 = .ok (.new 36, 3) := by decide +kernel
theorem dX10_init_55 : decode cX10_init 55 = .ok (.dup, 1) := by decide +kernel
theorem dX10_init_56 : decode cX10_init 56 = .ok (.invokespecial 38, 3) := by decide +kernel
theorem dX10_init_59 : decode cX10_init 59 = .ok (.putfield 39, 3) := by decide +kernel
theorem dX10_init_62 : decode cX10_init 62 = .ok (.aload_n 0, 1) := by decide +kernel
theorem dX10_init_63 : decode cX10_init 63 = .ok (.bipush 6, 2) := by decide +kernel
theorem dX10_init_65 : decode cX10_init 65 = .ok (.newarray .int, 2) := by decide +kernel
theorem dX10_init_67 : decode cX10_init 67 = .ok (.putfield 43, 3) := by decide +kernel
theorem dX10_init_70 : decode cX10_init 70 = .ok (.aload_n 0, 1) := by decide +kernel
theorem dX10_init_71 : decode cX10_init 71 = .ok (.iconst 0, 1) := by decide +kernel
theorem dX10_init_72 : decode cX10_init 72 = .ok (.putfield 47, 3) := by decide +kernel
theorem dX10_init_75 : decode cX10_init 75 = .ok (.aload_n 0, 1) := by decide +kernel
theorem dX10_init_76 : decode cX10_init 76 = .ok (.iconst 0, 1) := by decide +kernel
theorem dX10_init_77 : decode cX10_init 77 = .ok (.putfield 51, 3) := by decide +kernel
theorem dX10_init_80 : decode cX10_init 80 = .ok (.aload_n 0, 1) := by decide +kernel
theorem dX10_init_81 : decode cX10_init 81 = .ok (.lconst 0, 1) := by decide +kernel
theorem dX10_init_82 : decode cX10_init 82 = .ok (.putfield 54, 3) := by decide +kernel
theorem dX10_init_85 : decode cX10_init 85 = .ok (.aload_n 0, 1) := by decide +kernel
theorem dX10_init_86 : decode cX10_init 86 = .ok (.lconst 1, 1) := by decide +kernel
theorem dX10_init_87 : decode cX10_init 87 = .ok (.putfield 58, 3) := by decide +kernel
theorem dX10_init_90 : decode cX10_init 90 = .ok (.iconst 0, 1) := by decide +kernel
theorem dX10_init_91 : decode cX10_init 91 = .ok (.istore_n 1, 1) := by decide +kernel
theorem dX10_init_92 : decode cX10_init 92 = .ok (.iload_n 1, 1) := by decide +kernel
theorem dX10_init_93 : decode cX10_init 93 = .ok (.bipush 6, 2) := by decide +kernel
theorem dX10_init_95 : decode cX10_init 95 = .ok (.if_icmp .ge 24, 3) := by decide +kernel
theorem dX10_init_98 : decode cX10_init 98 = .ok (.aload_n 0, 1) := by decide +kernel
theorem dX10_init_99 : decode cX10_init 99 = .ok (.getfield 11, 3) := by decide +kernel
theorem dX10_init_102 : decode cX10_init 102 = .ok (.iload_n 1, 1) := by decide +kernel
theorem dX10_init_103 : decode cX10_init 103 = .ok (.new 9, 3) := by decide +kernel
theorem dX10_init_106 : decode cX10_init 106 = .ok (.dup, 1) := by decide +kernel
theorem dX10_init_107 : decode cX10_init 107 = .ok (.bipush 40, 2) := by decide +kernel
theorem dX10_init_109 : decode cX10_init 109 = .ok (.invokespecial 61, 3) := by decide +kernel
theorem dX10_init_112 : decode cX10_init 112 = .ok (.aastore, 1) := by decide +kernel
theorem dX10_init_113 : decode cX10_init 113 = .ok (.iinc 1 1, 3) := by decide +kernel
theorem dX10_init_116 : decode cX10_init 116 = .ok (.goto (-24), 3) := by decide +kernel
theorem dX10_init_119 : decode cX10_init 119 = .ok (.iconst 0, 1) := by decide +kernel
theorem dX10_init_120 : decode cX10_init 120 = .ok (.istore_n 1, 1) := by decide +kernel
theorem dX10_init_121 : decode cX10_init 121 = .ok (.iload_n 1, 1) := by decide +kernel
theorem dX10_init_122 : decode cX10_init 122 = .ok (.iconst 4, 1) := by decide +kernel
theorem dX10_init_123 : decode cX10_init 123 = .ok (.if_icmp .ge 24, 3) := by decide +kernel
theorem dX10_init_126 : decode cX10_init 126 = .ok (.aload_n 0, 1) := by decide +kernel
theorem dX10_init_127 : decode cX10_init 127 = .ok (.getfield 15, 3) := by decide +kernel
theorem dX10_init_130 : decode cX10_init 130 = .ok (.iload_n 1, 1) := by decide +kernel
theorem dX10_init_131 : decode cX10_init 131 = .ok (.new 9, 3) := by decide +kernel
theorem dX10_init_134 : decode cX10_init 134 = .ok (.dup, 1) := by decide +kernel
theorem dX10_init_135 : decode cX10_init 135 = .ok (.bipush 60, 2) := by decide +kernel
theorem dX10_init_137 : decode cX10_init 137 = .ok (.invokespecial 61, 3) := by decide +kernel
theorem dX10_init_140 : decode cX10_init 140 = .ok (.aastore, 1) := by decide +kernel
theorem dX10_init_141 : decode cX10_init 141 = .ok (.iinc 1 1, 3) := by decide +kernel
theorem dX10_init_144 : decode cX10_init 144 = .ok (.goto (-23), 3) := by decide +kernel
theorem dX10_init_147 : decode cX10_init 147 = .ok (.iconst 0, 1) := by decide +kernel
theorem dX10_init_148 : decode cX10_init 148 = .ok (.istore_n 1, 1) := by decide +kernel
theorem dX10_init_149 : decode cX10_init 149 = .ok (.iload_n 1, 1) := by decide +kernel
theorem dX10_init_150 : decode cX10_init 150 = .ok (.iconst 3, 1) := by decide +kernel
theorem dX10_init_151 : decode cX10_init 151 = .ok (.if_icmp .ge 22, 3) := by decide +kernel
theorem dX10_init_154 : decode cX10_init 154 = .ok (.aload_n 0, 1) := by decide +kernel
theorem dX10_init_155 : decode cX10_init 155 = .ok (.getfield 32, 3) := by decide +kernel
theorem dX10_init_158 : decode cX10_init 158 = .ok (.iload_n 1, 1) := by decide +kernel
theorem dX10_init_159 : decode cX10_init 159 = .ok (.new 25, 3) := by decide +kernel
theorem dX10_init_162 : decode cX10_init 162 = .ok (.dup, 1) := by decide +kernel
theorem dX10_init_163 : decode cX10_init 163 = .ok (.invokespecial 27, 3) := by decide +kernel
theorem dX10_init_166 : decode cX10_init 166 = .ok (.aastore, 1) := by decide +kernel
theorem dX10_init_167 : decode cX10_init 167 = .ok (.iinc 1 1, 3) := by decide +kernel
theorem dX10_init_170 : decode cX10_init 170 = .ok (.goto (-21), 3) := by decide +kernel
theorem dX10_init_173 : decode cX10_init 173 = .ok (.return_, 1) := by decide +kernel
theorem dX10_row_0 : decode cX10_row 0 = .ok (.aload_n 0, 1) := by decide +kernel
theorem dX10_row_1 : decode cX10_row 1 = .ok (.iload_n 1, 1) := by decide +kernel
theorem dX10_row_2 : decode cX10_row 2 = .ok (.invokevirtual 64, 3) := by decide +kernel
theorem dX10_row_5 : decode cX10_row 5 = .ok (.ifCond .eq 9, 3) := by decide +kernel
theorem dX10_row_8 : decode cX10_row 8 = .ok (.iload_n 2, 1) := by decide +kernel
theorem dX10_row_9 : decode cX10_row 9 = .ok (.bipush 40, 2) := by decide +kernel
theorem dX10_row_11 : decode cX10_row 11 = .ok (.if_icmp .le 5, 3) := by decide +kernel
theorem dX10_row_14 : decode cX10_row 14 = .ok (.iconst (-1), 1) := by decide +kernel
theorem dX10_row_15 : decode cX10_row 15 = .ok (.ireturn, 1) := by decide +kernel
theorem dX10_row_16 : decode cX10_row 16 = .ok (.iload_n 2, 1) := by decide +kernel
theorem dX10_row_17 : decode cX10_row 17 = .ok (.ifCond .ge 9, 3) := by decide +kernel
theorem dX10_row_20 : decode cX10_row 20 = .ok (.aload_n 0, 1) := by decide +kernel
theorem dX10_row_21 : decode cX10_row 21 = .ok (.iconst 5, 1) := by decide +kernel
theorem dX10_row_22 : decode cX10_row 22 = .ok (.invokevirtual 68, 3) := by decide +kernel
theorem dX10_row_25 : decode cX10_row 25 = .ok (.ireturn, 1) := by decide +kernel
theorem dX10_row_26 : decode cX10_row 26 = .ok (.aload_n 0, 1) := by decide +kernel
theorem dX10_row_27 : decode cX10_row 27 = .ok (.getfield 11, 3) := by decide +kernel
theorem dX10_row_30 : decode cX10_row 30 = .ok (.iload_n 1, 1) := by decide +kernel
theorem dX10_row_31 : decode cX10_row 31 = .ok (.aaload, 1) := by decide +kernel
theorem dX10_row_32 : decode cX10_row 32 = .ok (.iload_n 2, 1) := by decide +kernel
theorem dX10_row_33 : decode cX10_row 33 = .ok (.iconst 0, 1) := by decide +kernel
theorem dX10_row_34 : decode cX10_row 34 = .ok (.invokevirtual 72, 3) := by decide +kernel
theorem dX10_row_37 : decode cX10_row 37 = .ok (.iload_n 2, 1) := by decide +kernel
theorem dX10_row_38 : decode cX10_row 38 = .ok (.ireturn, 1) := by decide +kernel
theorem dX10_lay_0 : decode cX10_lay 0 = .ok (.aload_n 0, 1) := by decide +kernel
theorem dX10_lay_1 : decode cX10_lay 1 = .ok (.iload_n 1, 1) := by decide +kernel
theorem dX10_lay_2 : decode cX10_lay 2 = .ok (.invokevirtual 64, 3) := by decide +kernel
theorem dX10_lay_5 : decode cX10_lay 5 = .ok (.ifCond .ne 5, 3) := by decide +kernel
theorem dX10_lay_8 : decode cX10_lay 8 = .ok (.iconst (-1), 1) := by decide +kernel
theorem dX10_lay_9 : decode cX10_lay 9 = .ok (.ireturn, 1) := by decide +kernel
theorem dX10_lay_10 : decode cX10_lay 10 = .ok (.aload_n 0, 1) := by decide +kernel
theorem dX10_lay_11 : decode cX10_lay 11 = .ok (.aload_n 0, 1) := by decide +kernel
theorem dX10_lay_12 : decode cX10_lay 12 = .ok (.getfield 11, 3) := by decide +kernel
theorem dX10_lay_15 : decode cX10_lay 15 = .ok (.iload_n 1, 1) := by decide +kernel
theorem dX10_lay_16 : decode cX10_lay 16 = .ok (.aaload, 1) := by decide +kernel
theorem dX10_lay_17 : decode cX10_lay 17 = .ok (.iload_n 2, 1) := by decide +kernel
theorem dX10_lay_18 : decode cX10_lay 18 = .ok (.invokevirtual 76, 3) := by decide +kernel
theorem dX10_lay_21 : decode cX10_lay 21 = .ok (.istore 4, 2) := by decide +kernel
theorem dX10_lay_23 : decode cX10_lay 23 = .ok (.iload 4, 2) := by decide +kernel
theorem dX10_lay_25 : decode cX10_lay 25 = .ok (.ifCond .eq 6, 3) := by decide +kernel
theorem dX10_lay_28 : decode cX10_lay 28 = .ok (.iload 4, 2) := by decide +kernel
theorem dX10_lay_30 : decode cX10_lay 30 = .ok (.ireturn, 1) := by decide +kernel
theorem dX10_lay_31 : decode cX10_lay 31 = .ok (.aload_n 0, 1) := by decide +kernel
theorem dX10_lay_32 : decode cX10_lay 32 = .ok (.aload_n 0, 1) := by decide +kernel
theorem dX10_lay_33 : decode cX10_lay 33 = .ok (.getfield 11, 3) := by decide +kernel
theorem dX10_lay_36 : decode cX10_lay 36 = .ok (.iload_n 1, 1) := by decide +kernel
theorem dX10_lay_37 : decode cX10_lay 37 = .ok (.aaload, 1) := by decide +kernel
theorem dX10_lay_38 : decode cX10_lay 38 = .ok (.getfield 80, 3) := by decide +kernel
theorem dX10_lay_41 : decode cX10_lay 41 = .ok (.iload_n 2, 1) := by decide +kernel
theorem dX10_lay_42 : decode cX10_lay 42 = .ok (.iaload, 1) := by decide +kernel
theorem dX10_lay_43 : decode cX10_lay 43 = .ok (.putfield 51, 3) := by decide +kernel
theorem dX10_lay_46 : decode cX10_lay 46 = .ok (.aload_n 0, 1) := by decide +kernel
theorem dX10_lay_47 : decode cX10_lay 47 = .ok (.getfield 11, 3) := by decide +kernel
theorem dX10_lay_50 : decode cX10_lay 50 = .ok (.iload_n 1, 1) := by decide +kernel
theorem dX10_lay_51 : decode cX10_lay 51 = .ok (.aaload, 1) := by decide +kernel
theorem dX10_lay_52 : decode cX10_lay 52 = .ok (.getfield 80, 3) := by decide +kernel
theorem dX10_lay_55 : decode cX10_lay 55 = .ok (.iload_n 2, 1) := by decide +kernel
theorem dX10_lay_56 : decode cX10_lay 56 = .ok (.iload_n 3, 1) := by decide +kernel
theorem dX10_lay_57 : decode cX10_lay 57 = .ok (.iastore, 1) := by decide +kernel
theorem dX10_lay_58 : decode cX10_lay 58 = .ok (.iconst 1, 1) := by decide +kernel
theorem dX10_lay_59 : decode cX10_lay 59 = .ok (.ireturn, 1) := by decide +kernel
theorem dX10_at_0 : decode cX10_at 0 = .ok (.aload_n 0, 1) := by decide +kernel
theorem dX10_at_1 : decode cX10_at 1 = .ok (.iload_n 1, 1) := by decide +kernel
theorem dX10_at_2 : decode cX10_at 2 = .ok (.invokevirtual 64, 3) := by decide +kernel
theorem dX10_at_5 : decode cX10_at 5 = .ok (.ifCond .ne 5, 3) := by decide +kernel
theorem dX10_at_8 : decode cX10_at 8 = .ok (.iconst (-1), 1) := by decide +kernel
theorem dX10_at_9 : decode cX10_at 9 = .ok (.ireturn, 1) := by decide +kernel
theorem dX10_at_10 : decode cX10_at 10 = .ok (.aload_n 0, 1) := by decide +kernel
theorem dX10_at_11 : decode cX10_at 11 = .ok (.aload_n 0, 1) := by decide +kernel
theorem dX10_at_12 : decode cX10_at 12 = .ok (.getfield 11, 3) := by decide +kernel
theorem dX10_at_15 : decode cX10_at 15 = .ok (.iload_n 1, 1) := by decide +kernel
theorem dX10_at_16 : decode cX10_at 16 = .ok (.aaload, 1) := by decide +kernel
theorem dX10_at_17 : decode cX10_at 17 = .ok (.iload_n 2, 1) := by decide +kernel
theorem dX10_at_18 : decode cX10_at 18 = .ok (.invokevirtual 76, 3) := by decide +kernel
theorem dX10_at_21 : decode cX10_at 21 = .ok (.istore_n 3, 1) := by decide +kernel
theorem dX10_at_22 : decode cX10_at 22 = .ok (.iload_n 3, 1) := by decide +kernel
theorem dX10_at_23 : decode cX10_at 23 = .ok (.ifCond .eq 5, 3) := by decide +kernel
theorem dX10_at_26 : decode cX10_at 26 = .ok (.iload_n 3, 1) := by decide +kernel
theorem dX10_at_27 : decode cX10_at 27 = .ok (.ireturn, 1) := by decide +kernel
theorem dX10_at_28 : decode cX10_at 28 = .ok (.aload_n 0, 1) := by decide +kernel
theorem dX10_at_29 : decode cX10_at 29 = .ok (.aload_n 0, 1) := by decide +kernel
theorem dX10_at_30 : decode cX10_at 30 = .ok (.getfield 11, 3) := by decide +kernel
theorem dX10_at_33 : decode cX10_at 33 = .ok (.iload_n 1, 1) := by decide +kernel
theorem dX10_at_34 : decode cX10_at 34 = .ok (.aaload, 1) := by decide +kernel
theorem dX10_at_35 : decode cX10_at 35 = .ok (.getfield 80, 3) := by decide +kernel
theorem dX10_at_38 : decode cX10_at 38 = .ok (.iload_n 2, 1) := by decide +kernel
theorem dX10_at_39 : decode cX10_at 39 = .ok (.iaload, 1) := by decide +kernel
theorem dX10_at_40 : decode cX10_at 40 = .ok (.putfield 51, 3) := by decide +kernel
theorem dX10_at_43 : decode cX10_at 43 = .ok (.iconst 1, 1) := by decide +kernel
theorem dX10_at_44 : decode cX10_at 44 = .ok (.ireturn, 1) := by decide +kernel
theorem dX10_tear_0 : decode cX10_tear 0 = .ok (.aload_n 0, 1) := by decide +kernel
theorem dX10_tear_1 : decode cX10_tear 1 = .ok (.iload_n 1, 1) := by decide +kernel
theorem dX10_tear_2 : decode cX10_tear 2 = .ok (.invokevirtual 64, 3) := by decide +kernel
theorem dX10_tear_5 : decode cX10_tear 5 = .ok (.ifCond .ne 5, 3) := by decide +kernel
theorem dX10_tear_8 : decode cX10_tear 8 = .ok (.iconst (-1), 1) := by decide +kernel
theorem dX10_tear_9 : decode cX10_tear 9 = .ok (.ireturn, 1) := by decide +kernel
theorem dX10_tear_10 : decode cX10_tear 10 = .ok (.aload_n 0, 1) := by decide +kernel
theorem dX10_tear_11 : decode cX10_tear 11 = .ok (.getfield 11, 3) := by decide +kernel
theorem dX10_tear_14 : decode cX10_tear 14 = .ok (.iload_n 1, 1) := by decide +kernel
theorem dX10_tear_15 : decode cX10_tear 15 = .ok (.aaload, 1) := by decide +kernel
theorem dX10_tear_16 : decode cX10_tear 16 = .ok (.invokevirtual 83, 3) := by decide +kernel
theorem dX10_tear_19 : decode cX10_tear 19 = .ok (.ifCond .ne 9, 3) := by decide +kernel
theorem dX10_tear_22 : decode cX10_tear 22 = .ok (.aload_n 0, 1) := by decide +kernel
theorem dX10_tear_23 : decode cX10_tear 23 = .ok (.iconst 1, 1) := by decide +kernel
theorem dX10_tear_24 : decode cX10_tear 24 = .ok (.invokevirtual 68, 3) := by decide +kernel
theorem dX10_tear_27 : decode cX10_tear 27 = .ok (.ireturn, 1) := by decide +kernel
theorem dX10_tear_28 : decode cX10_tear 28 = .ok (.aload_n 0, 1) := by decide +kernel
theorem dX10_tear_29 : decode cX10_tear 29 = .ok (.getfield 11, 3) := by decide +kernel
theorem dX10_tear_32 : decode cX10_tear 32 = .ok (.iload_n 1, 1) := by decide +kernel
theorem dX10_tear_33 : decode cX10_tear 33 = .ok (.aaload, 1) := by decide +kernel
theorem dX10_tear_34 : decode cX10_tear 34 = .ok (.invokevirtual 87, 3) := by decide +kernel
theorem dX10_tear_37 : decode cX10_tear 37 = .ok (.iconst 1, 1) := by decide +kernel
theorem dX10_tear_38 : decode cX10_tear 38 = .ok (.ireturn, 1) := by decide +kernel
theorem dX10_copy_0 : decode cX10_copy 0 = .ok (.aload_n 0, 1) := by decide +kernel
theorem dX10_copy_1 : decode cX10_copy 1 = .ok (.iload_n 1, 1) := by decide +kernel
theorem dX10_copy_2 : decode cX10_copy 2 = .ok (.invokevirtual 64, 3) := by decide +kernel
theorem dX10_copy_5 : decode cX10_copy 5 = .ok (.ifCond .eq 11, 3) := by decide +kernel
theorem dX10_copy_8 : decode cX10_copy 8 = .ok (.aload_n 0, 1) := by decide +kernel
theorem dX10_copy_9 : decode cX10_copy 9 = .ok (.iload_n 3, 1) := by decide +kernel
theorem dX10_copy_10 : decode cX10_copy 10 = .ok (.invokevirtual 64, 3) := by decide +kernel
theorem dX10_copy_13 : decode cX10_copy 13 = .ok (.ifCond .ne 5, 3) := by decide +kernel
theorem dX10_copy_16 : decode cX10_copy 16 = .ok (.iconst (-1), 1) := by decide +kernel
theorem dX10_copy_17 : decode cX10_copy 17 = .ok (.ireturn, 1) := by decide +kernel
theorem dX10_copy_18 : decode cX10_copy 18 = .ok (.iload 5, 2) := by decide +kernel
theorem dX10_copy_20 : decode cX10_copy 20 = .ok (.ifCond .ge 9, 3) := by decide +kernel
theorem dX10_copy_23 : decode cX10_copy 23 = .ok (.aload_n 0, 1) := by decide +kernel
theorem dX10_copy_24 : decode cX10_copy 24 = .ok (.iconst 5, 1) := by decide +kernel
theorem dX10_copy_25 : decode cX10_copy 25 = .ok (.invokevirtual 68, 3) := by decide +kernel
theorem dX10_copy_28 : decode cX10_copy 28 = .ok (.ireturn, 1) := by decide +kernel
theorem dX10_copy_29 : decode cX10_copy 29 = .ok (.aload_n 0, 1) := by decide +kernel
theorem dX10_copy_30 : decode cX10_copy 30 = .ok (.getfield 11, 3) := by decide +kernel
theorem dX10_copy_33 : decode cX10_copy 33 = .ok (.iload_n 1, 1) := by decide +kernel
theorem dX10_copy_34 : decode cX10_copy 34 = .ok (.aaload, 1) := by decide +kernel
theorem dX10_copy_35 : decode cX10_copy 35 = .ok (.invokevirtual 83, 3) := by decide +kernel
theorem dX10_copy_38 : decode cX10_copy 38 = .ok (.ifCond .eq 15, 3) := by decide +kernel
theorem dX10_copy_41 : decode cX10_copy 41 = .ok (.aload_n 0, 1) := by decide +kernel
theorem dX10_copy_42 : decode cX10_copy 42 = .ok (.getfield 11, 3) := by decide +kernel
theorem dX10_copy_45 : decode cX10_copy 45 = .ok (.iload_n 3, 1) := by decide +kernel
theorem dX10_copy_46 : decode cX10_copy 46 = .ok (.aaload, 1) := by decide +kernel
theorem dX10_copy_47 : decode cX10_copy 47 = .ok (.invokevirtual 83, 3) := by decide +kernel
theorem dX10_copy_50 : decode cX10_copy 50 = .ok (.ifCond .ne 9, 3) := by decide +kernel
theorem dX10_copy_53 : decode cX10_copy 53 = .ok (.aload_n 0, 1) := by decide +kernel
theorem dX10_copy_54 : decode cX10_copy 54 = .ok (.iconst 1, 1) := by decide +kernel
theorem dX10_copy_55 : decode cX10_copy 55 = .ok (.invokevirtual 68, 3) := by decide +kernel
theorem dX10_copy_58 : decode cX10_copy 58 = .ok (.ireturn, 1) := by decide +kernel
theorem dX10_copy_59 : decode cX10_copy 59 = .ok (.aload_n 0, 1) := by decide +kernel
theorem dX10_copy_60 : decode cX10_copy 60 = .ok (.getfield 11, 3) := by decide +kernel
theorem dX10_copy_63 : decode cX10_copy 63 = .ok (.iload_n 1, 1) := by decide +kernel
theorem dX10_copy_64 : decode cX10_copy 64 = .ok (.aaload, 1) := by decide +kernel
theorem dX10_copy_65 : decode cX10_copy 65 = .ok (.iload_n 2, 1) := by decide +kernel
theorem dX10_copy_66 : decode cX10_copy 66 = .ok (.iload 5, 2) := by decide +kernel
theorem dX10_copy_68 : decode cX10_copy 68 = .ok (.invokevirtual 90, 3) := by decide +kernel
theorem dX10_copy_71 : decode cX10_copy 71 = .ok (.ifCond .eq 19, 3) := by decide +kernel
theorem dX10_copy_74 : decode cX10_copy 74 = .ok (.aload_n 0, 1) := by decide +kernel
theorem dX10_copy_75 : decode cX10_copy 75 = .ok (.getfield 11, 3) := by decide +kernel
theorem dX10_copy_78 : decode cX10_copy 78 = .ok (.iload_n 3, 1) := by decide +kernel
theorem dX10_copy_79 : decode cX10_copy 79 = .ok (.aaload, 1) := by decide +kernel
theorem dX10_copy_80 : decode cX10_copy 80 = .ok (.iload 4, 2) := by decide +kernel
theorem dX10_copy_82 : decode cX10_copy 82 = .ok (.iload 5, 2) := by decide +kernel
theorem dX10_copy_84 : decode cX10_copy 84 = .ok (.invokevirtual 90, 3) := by decide +kernel
theorem dX10_copy_87 : decode cX10_copy 87 = .ok (.ifCond .ne 9, 3) := by decide +kernel
theorem dX10_copy_90 : decode cX10_copy 90 = .ok (.aload_n 0, 1) := by decide +kernel
theorem dX10_copy_91 : decode cX10_copy 91 = .ok (.iconst 2, 1) := by decide +kernel
theorem dX10_copy_92 : decode cX10_copy 92 = .ok (.invokevirtual 68, 3) := by decide +kernel
theorem dX10_copy_95 : decode cX10_copy 95 = .ok (.ireturn, 1) := by decide +kernel
theorem dX10_copy_96 : decode cX10_copy 96 = .ok (.aload_n 0, 1) := by decide +kernel
theorem dX10_copy_97 : decode cX10_copy 97 = .ok (.getfield 11, 3) := by decide +kernel
theorem dX10_copy_100 : decode cX10_copy 100 = .ok (.iload_n 1, 1) := by decide +kernel
theorem dX10_copy_101 : decode cX10_copy 101 = .ok (.aaload, 1) := by decide +kernel
theorem dX10_copy_102 : decode cX10_copy 102 = .ok (.getfield 80, 3) := by decide +kernel
theorem dX10_copy_105 : decode cX10_copy 105 = .ok (.iload_n 2, 1) := by decide +kernel
theorem dX10_copy_106 : decode cX10_copy 106 = .ok (.aload_n 0, 1) := by decide +kernel
theorem dX10_copy_107 : decode cX10_copy 107 = .ok (.getfield 11, 3) := by decide +kernel
theorem dX10_copy_110 : decode cX10_copy 110 = .ok (.iload_n 3, 1) := by decide +kernel
theorem dX10_copy_111 : decode cX10_copy 111 = .ok (.aaload, 1) := by decide +kernel
theorem dX10_copy_112 : decode cX10_copy 112 = .ok (.getfield 80, 3) := by decide +kernel
theorem dX10_copy_115 : decode cX10_copy 115 = .ok (.iload 4, 2) := by decide +kernel
theorem dX10_copy_117 : decode cX10_copy 117 = .ok (.iload 5, 2) := by decide +kernel
theorem dX10_copy_119 : decode cX10_copy 119 = .ok (.invokestatic 94, 3) := by decide +kernel
theorem dX10_copy_122 : decode cX10_copy 122 = .ok (.iconst 1, 1) := by decide +kernel
theorem dX10_copy_123 : decode cX10_copy 123 = .ok (.ireturn, 1) := by decide +kernel
theorem dX10_mean_0 : decode cX10_mean 0 = .ok (.aload_n 0, 1) := by decide +kernel
theorem dX10_mean_1 : decode cX10_mean 1 = .ok (.iload_n 1, 1) := by decide +kernel
theorem dX10_mean_2 : decode cX10_mean 2 = .ok (.invokevirtual 64, 3) := by decide +kernel
theorem dX10_mean_5 : decode cX10_mean 5 = .ok (.ifCond .ne 5, 3) := by decide +kernel
theorem dX10_mean_8 : decode cX10_mean 8 = .ok (.iconst (-1), 1) := by decide +kernel
theorem dX10_mean_9 : decode cX10_mean 9 = .ok (.ireturn, 1) := by decide +kernel
theorem dX10_mean_10 : decode cX10_mean 10 = .ok (.aload_n 0, 1) := by decide +kernel
theorem dX10_mean_11 : decode cX10_mean 11 = .ok (.getfield 11, 3) := by decide +kernel
theorem dX10_mean_14 : decode cX10_mean 14 = .ok (.iload_n 1, 1) := by decide +kernel
theorem dX10_mean_15 : decode cX10_mean 15 = .ok (.aaload, 1) := by decide +kernel
theorem dX10_mean_16 : decode cX10_mean 16 = .ok (.astore_n 2, 1) := by decide +kernel
theorem dX10_mean_17 : decode cX10_mean 17 = .ok (.aload_n 2, 1) := by decide +kernel
theorem dX10_mean_18 : decode cX10_mean 18 = .ok (.invokevirtual 83, 3) := by decide +kernel
theorem dX10_mean_21 : decode cX10_mean 21 = .ok (.ifCond .ne 9, 3) := by decide +kernel
theorem dX10_mean_24 : decode cX10_mean 24 = .ok (.aload_n 0, 1) := by decide +kernel
theorem dX10_mean_25 : decode cX10_mean 25 = .ok (.iconst 1, 1) := by decide +kernel
theorem dX10_mean_26 : decode cX10_mean 26 = .ok (.invokevirtual 68, 3) := by decide +kernel
theorem dX10_mean_29 : decode cX10_mean 29 = .ok (.ireturn, 1) := by decide +kernel
theorem dX10_mean_30 : decode cX10_mean 30 = .ok (.aload_n 2, 1) := by decide +kernel
theorem dX10_mean_31 : decode cX10_mean 31 = .ok (.getfield 100, 3) := by decide +kernel
theorem dX10_mean_34 : decode cX10_mean 34 = .ok (.ifCond .ne 9, 3) := by decide +kernel
theorem dX10_mean_37 : decode cX10_mean 37 = .ok (.aload_n 0, 1) := by decide +kernel
theorem dX10_mean_38 : decode cX10_mean 38 = .ok (.iconst 4, 1) := by decide +kernel
theorem dX10_mean_39 : decode cX10_mean 39 = .ok (.invokevirtual 68, 3) := by decide +kernel
theorem dX10_mean_42 : decode cX10_mean 42 = .ok (.ireturn, 1) := by decide +kernel
theorem dX10_mean_43 : decode cX10_mean 43 = .ok (.aload_n 0, 1) := by decide +kernel
theorem dX10_mean_44 : decode cX10_mean 44 = .ok (.aload_n 2, 1) := by decide +kernel
theorem dX10_mean_45 : decode cX10_mean 45 = .ok (.invokevirtual 103, 3) := by decide +kernel
theorem dX10_mean_48 : decode cX10_mean 48 = .ok (.aload_n 2, 1) := by decide +kernel
theorem dX10_mean_49 : decode cX10_mean 49 = .ok (.getfield 100, 3) := by decide +kernel
theorem dX10_mean_52 : decode cX10_mean 52 = .ok (.i2l, 1) := by decide +kernel
theorem dX10_mean_53 : decode cX10_mean 53 = .ok (.ldiv, 1) := by decide +kernel
theorem dX10_mean_54 : decode cX10_mean 54 = .ok (.l2i, 1) := by decide +kernel
theorem dX10_mean_55 : decode cX10_mean 55 = .ok (.putfield 51, 3) := by decide +kernel
theorem dX10_mean_58 : decode cX10_mean 58 = .ok (.iconst 1, 1) := by decide +kernel
theorem dX10_mean_59 : decode cX10_mean 59 = .ok (.ireturn, 1) := by decide +kernel
theorem dX10_text_0 : decode cX10_text 0 = .ok (.aload_n 0, 1) := by decide +kernel
theorem dX10_text_1 : decode cX10_text 1 = .ok (.iload_n 1, 1) := by decide +kernel
theorem dX10_text_2 : decode cX10_text 2 = .ok (.invokevirtual 107, 3) := by decide +kernel
theorem dX10_text_5 : decode cX10_text 5 = .ok (.ifCond .eq 9, 3) := by decide +kernel
theorem dX10_text_8 : decode cX10_text 8 = .ok (.iload_n 2, 1) := by decide +kernel
theorem dX10_text_9 : decode cX10_text 9 = .ok (.bipush 60, 2) := by decide +kernel
theorem dX10_text_11 : decode cX10_text 11 = .ok (.if_icmp .le 5, 3) := by decide +kernel
theorem dX10_text_14 : decode cX10_text 14 = .ok (.iconst (-1), 1) := by decide +kernel
theorem dX10_text_15 : decode cX10_text 15 = .ok (.ireturn, 1) := by decide +kernel
theorem dX10_text_16 : decode cX10_text 16 = .ok (.iload_n 2, 1) := by decide +kernel
theorem dX10_text_17 : decode cX10_text 17 = .ok (.ifCond .ge 9, 3) := by decide +kernel
theorem dX10_text_20 : decode cX10_text 20 = .ok (.aload_n 0, 1) := by decide +kernel
theorem dX10_text_21 : decode cX10_text 21 = .ok (.iconst 5, 1) := by decide +kernel
theorem dX10_text_22 : decode cX10_text 22 = .ok (.invokevirtual 68, 3) := by decide +kernel
theorem dX10_text_25 : decode cX10_text 25 = .ok (.ireturn, 1) := by decide +kernel
theorem dX10_text_26 : decode cX10_text 26 = .ok (.aload_n 0, 1) := by decide +kernel
theorem dX10_text_27 : decode cX10_text 27 = .ok (.getfield 15, 3) := by decide +kernel
theorem dX10_text_30 : decode cX10_text 30 = .ok (.iload_n 1, 1) := by decide +kernel
theorem dX10_text_31 : decode cX10_text 31 = .ok (.aaload, 1) := by decide +kernel
theorem dX10_text_32 : decode cX10_text 32 = .ok (.iload_n 2, 1) := by decide +kernel
theorem dX10_text_33 : decode cX10_text 33 = .ok (.bipush 32, 2) := by decide +kernel
theorem dX10_text_35 : decode cX10_text 35 = .ok (.invokevirtual 72, 3) := by decide +kernel
theorem dX10_text_38 : decode cX10_text 38 = .ok (.iload_n 2, 1) := by decide +kernel
theorem dX10_text_39 : decode cX10_text 39 = .ok (.ireturn, 1) := by decide +kernel
theorem dX10_put_0 : decode cX10_put 0 = .ok (.aload_n 0, 1) := by decide +kernel
theorem dX10_put_1 : decode cX10_put 1 = .ok (.iload_n 1, 1) := by decide +kernel
theorem dX10_put_2 : decode cX10_put 2 = .ok (.invokevirtual 107, 3) := by decide +kernel
theorem dX10_put_5 : decode cX10_put 5 = .ok (.ifCond .ne 5, 3) := by decide +kernel
theorem dX10_put_8 : decode cX10_put 8 = .ok (.iconst (-1), 1) := by decide +kernel
theorem dX10_put_9 : decode cX10_put 9 = .ok (.ireturn, 1) := by decide +kernel
theorem dX10_put_10 : decode cX10_put 10 = .ok (.aload_n 0, 1) := by decide +kernel
theorem dX10_put_11 : decode cX10_put 11 = .ok (.aload_n 0, 1) := by decide +kernel
theorem dX10_put_12 : decode cX10_put 12 = .ok (.getfield 15, 3) := by decide +kernel
theorem dX10_put_15 : decode cX10_put 15 = .ok (.iload_n 1, 1) := by decide +kernel
theorem dX10_put_16 : decode cX10_put 16 = .ok (.aaload, 1) := by decide +kernel
theorem dX10_put_17 : decode cX10_put 17 = .ok (.iload_n 2, 1) := by decide +kernel
theorem dX10_put_18 : decode cX10_put 18 = .ok (.invokevirtual 76, 3) := by decide +kernel
theorem dX10_put_21 : decode cX10_put 21 = .ok (.istore 4, 2) := by decide +kernel
theorem dX10_put_23 : decode cX10_put 23 = .ok (.iload 4, 2) := by decide +kernel
theorem dX10_put_25 : decode cX10_put 25 = .ok (.ifCond .eq 6, 3) := by decide +kernel
theorem dX10_put_28 : decode cX10_put 28 = .ok (.iload 4, 2) := by decide +kernel
theorem dX10_put_30 : decode cX10_put 30 = .ok (.ireturn, 1) := by decide +kernel
theorem dX10_put_31 : decode cX10_put 31 = .ok (.aload_n 0, 1) := by decide +kernel
theorem dX10_put_32 : decode cX10_put 32 = .ok (.getfield 15, 3) := by decide +kernel
theorem dX10_put_35 : decode cX10_put 35 = .ok (.iload_n 1, 1) := by decide +kernel
theorem dX10_put_36 : decode cX10_put 36 = .ok (.aaload, 1) := by decide +kernel
theorem dX10_put_37 : decode cX10_put 37 = .ok (.getfield 80, 3) := by decide +kernel
theorem dX10_put_40 : decode cX10_put 40 = .ok (.iload_n 2, 1) := by decide +kernel
theorem dX10_put_41 : decode cX10_put 41 = .ok (.iaload, 1) := by decide +kernel
theorem dX10_put_42 : decode cX10_put 42 = .ok (.istore 5, 2) := by decide +kernel
theorem dX10_put_44 : decode cX10_put 44 = .ok (.aload_n 0, 1) := by decide +kernel
theorem dX10_put_45 : decode cX10_put 45 = .ok (.getfield 15, 3) := by decide +kernel
theorem dX10_put_48 : decode cX10_put 48 = .ok (.iload_n 1, 1) := by decide +kernel
theorem dX10_put_49 : decode cX10_put 49 = .ok (.aaload, 1) := by decide +kernel
theorem dX10_put_50 : decode cX10_put 50 = .ok (.getfield 80, 3) := by decide +kernel
theorem dX10_put_53 : decode cX10_put 53 = .ok (.iload_n 2, 1) := by decide +kernel
theorem dX10_put_54 : decode cX10_put 54 = .ok (.iload_n 3, 1) := by decide +kernel
theorem dX10_put_55 : decode cX10_put 55 = .ok (.i2b, 1) := by decide +kernel
theorem dX10_put_56 : decode cX10_put 56 = .ok (.iastore, 1) := by decide +kernel
theorem dX10_put_57 : decode cX10_put 57 = .ok (.iload 5, 2) := by decide +kernel
theorem dX10_put_59 : decode cX10_put 59 = .ok (.sipush 1000, 3) := by decide +kernel
theorem dX10_put_62 : decode cX10_put 62 = .ok (.iadd, 1) := by decide +kernel
theorem dX10_put_63 : decode cX10_put 63 = .ok (.ireturn, 1) := by decide +kernel
theorem dX10_fault_0 : decode cX10_fault 0 = .ok (.aload_n 0, 1) := by decide +kernel
theorem dX10_fault_1 : decode cX10_fault 1 = .ok (.iload_n 1, 1) := by decide +kernel
theorem dX10_fault_2 : decode cX10_fault 2 = .ok (.invokevirtual 107, 3) := by decide +kernel
theorem dX10_fault_5 : decode cX10_fault 5 = .ok (.ifCond .ne 5, 3) := by decide +kernel
theorem dX10_fault_8 : decode cX10_fault 8 = .ok (.iconst (-1), 1) := by decide +kernel
theorem dX10_fault_9 : decode cX10_fault 9 = .ok (.ireturn, 1) := by decide +kernel
theorem dX10_fault_10 : decode cX10_fault 10 = .ok (.aload_n 0, 1) := by decide +kernel
theorem dX10_fault_11 : decode cX10_fault 11 = .ok (.getfield 15, 3) := by decide +kernel
theorem dX10_fault_14 : decode cX10_fault 14 = .ok (.iload_n 1, 1) := by decide +kernel
theorem dX10_fault_15 : decode cX10_fault 15 = .ok (.aaload, 1) := by decide +kernel
theorem dX10_fault_16 : decode cX10_fault 16 = .ok (.invokevirtual 83, 3) := by decide +kernel
theorem dX10_fault_19 : decode cX10_fault 19 = .ok (.ifCond .ne 9, 3) := by decide +kernel
theorem dX10_fault_22 : decode cX10_fault 22 = .ok (.aload_n 0, 1) := by decide +kernel
theorem dX10_fault_23 : decode cX10_fault 23 = .ok (.iconst 1, 1) := by decide +kernel
theorem dX10_fault_24 : decode cX10_fault 24 = .ok (.invokevirtual 68, 3) := by decide +kernel
theorem dX10_fault_27 : decode cX10_fault 27 = .ok (.ireturn, 1) := by decide +kernel
theorem dX10_fault_28 : decode cX10_fault 28 = .ok (.aload_n 0, 1) := by decide +kernel
theorem dX10_fault_29 : decode cX10_fault 29 = .ok (.getfield 21, 3) := by decide +kernel
theorem dX10_fault_32 : decode cX10_fault 32 = .ok (.aload_n 0, 1) := by decide +kernel
theorem dX10_fault_33 : decode cX10_fault 33 = .ok (.getfield 15, 3) := by decide +kernel
theorem dX10_fault_36 : decode cX10_fault 36 = .ok (.iload_n 1, 1) := by decide +kernel
theorem dX10_fault_37 : decode cX10_fault 37 = .ok (.aaload, 1) := by decide +kernel
theorem dX10_fault_38 : decode cX10_fault 38 = .ok (.invokevirtual 110, 3) := by decide +kernel
theorem dX10_fault_41 : decode cX10_fault 41 = .ok (.ireturn, 1) := by decide +kernel
theorem dX10_town_0 : decode cX10_town 0 = .ok (.aload_n 0, 1) := by decide +kernel
theorem dX10_town_1 : decode cX10_town 1 = .ok (.iload_n 1, 1) := by decide +kernel
theorem dX10_town_2 : decode cX10_town 2 = .ok (.invokevirtual 107, 3) := by decide +kernel
theorem dX10_town_5 : decode cX10_town 5 = .ok (.ifCond .ne 5, 3) := by decide +kernel
theorem dX10_town_8 : decode cX10_town 8 = .ok (.iconst (-1), 1) := by decide +kernel
theorem dX10_town_9 : decode cX10_town 9 = .ok (.ireturn, 1) := by decide +kernel
theorem dX10_town_10 : decode cX10_town 10 = .ok (.aload_n 0, 1) := by decide +kernel
theorem dX10_town_11 : decode cX10_town 11 = .ok (.getfield 15, 3) := by decide +kernel
theorem dX10_town_14 : decode cX10_town 14 = .ok (.iload_n 1, 1) := by decide +kernel
theorem dX10_town_15 : decode cX10_town 15 = .ok (.aaload, 1) := by decide +kernel
theorem dX10_town_16 : decode cX10_town 16 = .ok (.invokevirtual 83, 3) := by decide +kernel
theorem dX10_town_19 : decode cX10_town 19 = .ok (.ifCond .ne 9, 3) := by decide +kernel
theorem dX10_town_22 : decode cX10_town 22 = .ok (.aload_n 0, 1) := by decide +kernel
theorem dX10_town_23 : decode cX10_town 23 = .ok (.iconst 1, 1) := by decide +kernel
theorem dX10_town_24 : decode cX10_town 24 = .ok (.invokevirtual 68, 3) := by decide +kernel
theorem dX10_town_27 : decode cX10_town 27 = .ok (.ireturn, 1) := by decide +kernel
theorem dX10_town_28 : decode cX10_town 28 = .ok (.aload_n 0, 1) := by decide +kernel
theorem dX10_town_29 : decode cX10_town 29 = .ok (.getfield 21, 3) := by decide +kernel
theorem dX10_town_32 : decode cX10_town 32 = .ok (.aload_n 0, 1) := by decide +kernel
theorem dX10_town_33 : decode cX10_town 33 = .ok (.getfield 15, 3) := by decide +kernel
theorem dX10_town_36 : decode cX10_town 36 = .ok (.iload_n 1, 1) := by decide +kernel
theorem dX10_town_37 : decode cX10_town 37 = .ok (.aaload, 1) := by decide +kernel
theorem dX10_town_38 : decode cX10_town 38 = .ok (.invokevirtual 110, 3) := by decide +kernel
theorem dX10_town_41 : decode cX10_town 41 = .ok (.bipush (-9), 2) := by decide +kernel
theorem dX10_town_43 : decode cX10_town 43 = .ok (.if_icmp .eq 6, 3) := by decide +kernel
theorem dX10_town_46 : decode cX10_town 46 = .ok (.bipush (-4), 2) := by decide +kernel
theorem dX10_town_48 : decode cX10_town 48 = .ok (.ireturn, 1) := by decide +kernel
theorem dX10_town_49 : decode cX10_town 49 = .ok (.aload_n 0, 1) := by decide +kernel
theorem dX10_town_50 : decode cX10_town 50 = .ok (.getfield 28, 3) := by decide +kernel
theorem dX10_town_53 : decode cX10_town 53 = .ok (.aload_n 0, 1) := by decide +kernel
theorem dX10_town_54 : decode cX10_town 54 = .ok (.getfield 21, 3) := by decide +kernel
theorem dX10_town_57 : decode cX10_town 57 = .ok (.invokevirtual 114, 3) := by decide +kernel
theorem dX10_town_60 : decode cX10_town 60 = .ok (.iconst 0, 1) := by decide +kernel
theorem dX10_town_61 : decode cX10_town 61 = .ok (.istore_n 2, 1) := by decide +kernel
theorem dX10_town_62 : decode cX10_town 62 = .ok (.iload_n 2, 1) := by decide +kernel
theorem dX10_town_63 : decode cX10_town 63 = .ok (.iconst 3, 1) := by decide +kernel
theorem dX10_town_64 : decode cX10_town 64 = .ok (.if_icmp .ge 19, 3) := by decide +kernel
theorem dX10_town_67 : decode cX10_town 67 = .ok (.aload_n 0, 1) := by decide +kernel
theorem dX10_town_68 : decode cX10_town 68 = .ok (.getfield 32, 3) := by decide +kernel
theorem dX10_town_71 : decode cX10_town 71 = .ok (.iload_n 2, 1) := by decide +kernel
theorem dX10_town_72 : decode cX10_town 72 = .ok (.aaload, 1) := by decide +kernel
theorem dX10_town_73 : decode cX10_town 73 = .ok (.iconst 0, 1) := by decide +kernel
theorem dX10_town_74 : decode cX10_town 74 = .ok (.putfield 118, 3) := by decide +kernel
theorem dX10_town_77 : decode cX10_town 77 = .ok (.iinc 2 1, 3) := by decide +kernel
theorem dX10_town_80 : decode cX10_town 80 = .ok (.goto (-18), 3) := by decide +kernel
theorem dX10_town_83 : decode cX10_town 83 = .ok (.aload_n 0, 1) := by decide +kernel
theorem dX10_town_84 : decode cX10_town 84 = .ok (.getfield 28, 3) := by decide +kernel
theorem dX10_town_87 : decode cX10_town 87 = .ok (.getfield 118, 3) := by decide +kernel
theorem dX10_town_90 : decode cX10_town 90 = .ok (.ireturn, 1) := by decide +kernel
theorem dX10_person_0 : decode cX10_person 0 = .ok (.aload_n 0, 1) := by decide +kernel
theorem dX10_person_1 : decode cX10_person 1 = .ok (.iload_n 1, 1) := by decide +kernel
theorem dX10_person_2 : decode cX10_person 2 = .ok (.invokevirtual 121, 3) := by decide +kernel
theorem dX10_person_5 : decode cX10_person 5 = .ok (.ifCond .eq 13, 3) := by decide +kernel
theorem dX10_person_8 : decode cX10_person 8 = .ok (.iload_n 2, 1) := by decide +kernel
theorem dX10_person_9 : decode cX10_person 9 = .ok (.ifCond .lt 9, 3) := by decide +kernel
theorem dX10_person_12 : decode cX10_person 12 = .ok (.iload_n 2, 1) := by decide +kernel
theorem dX10_person_13 : decode cX10_person 13 = .ok (.bipush 7, 2) := by decide +kernel
theorem dX10_person_15 : decode cX10_person 15 = .ok (.if_icmp .lt 5, 3) := by decide +kernel
theorem dX10_person_18 : decode cX10_person 18 = .ok (.iconst (-1), 1) := by decide +kernel
theorem dX10_person_19 : decode cX10_person 19 = .ok (.ireturn, 1) := by decide +kernel
theorem dX10_person_20 : decode cX10_person 20 = .ok (.aload_n 0, 1) := by decide +kernel
theorem dX10_person_21 : decode cX10_person 21 = .ok (.aload_n 0, 1) := by decide +kernel
theorem dX10_person_22 : decode cX10_person 22 = .ok (.getfield 28, 3) := by decide +kernel
theorem dX10_person_25 : decode cX10_person 25 = .ok (.iload_n 1, 1) := by decide +kernel
theorem dX10_person_26 : decode cX10_person 26 = .ok (.iload_n 2, 1) := by decide +kernel
theorem dX10_person_27 : decode cX10_person 27 = .ok (.invokevirtual 124, 3) := by decide +kernel
theorem dX10_person_30 : decode cX10_person 30 = .ok (.putfield 51, 3) := by decide +kernel
theorem dX10_person_33 : decode cX10_person 33 = .ok (.iconst 1, 1) := by decide +kernel
theorem dX10_person_34 : decode cX10_person 34 = .ok (.ireturn, 1) := by decide +kernel
theorem dX10_deep_0 : decode cX10_deep 0 = .ok (.aload_n 0, 1) := by decide +kernel
theorem dX10_deep_1 : decode cX10_deep 1 = .ok (.iload_n 1, 1) := by decide +kernel
theorem dX10_deep_2 : decode cX10_deep 2 = .ok (.invokevirtual 128, 3) := by decide +kernel
theorem dX10_deep_5 : decode cX10_deep 5 = .ok (.ifCond .ne 5, 3) := by decide +kernel
theorem dX10_deep_8 : decode cX10_deep 8 = .ok (.iconst (-1), 1) := by decide +kernel
theorem dX10_deep_9 : decode cX10_deep 9 = .ok (.ireturn, 1) := by decide +kernel
theorem dX10_deep_10 : decode cX10_deep 10 = .ok (.aload_n 0, 1) := by decide +kernel
theorem dX10_deep_11 : decode cX10_deep 11 = .ok (.getfield 28, 3) := by decide +kernel
theorem dX10_deep_14 : decode cX10_deep 14 = .ok (.invokevirtual 131, 3) := by decide +kernel
theorem dX10_deep_17 : decode cX10_deep 17 = .ok (.ifCond .ne 6, 3) := by decide +kernel
theorem dX10_deep_20 : decode cX10_deep 20 = .ok (.bipush (-4), 2) := by decide +kernel
theorem dX10_deep_22 : decode cX10_deep 22 = .ok (.ireturn, 1) := by decide +kernel
theorem dX10_deep_23 : decode cX10_deep 23 = .ok (.aload_n 0, 1) := by decide +kernel
theorem dX10_deep_24 : decode cX10_deep 24 = .ok (.aload_n 0, 1) := by decide +kernel
theorem dX10_deep_25 : decode cX10_deep 25 = .ok (.getfield 28, 3) := by decide +kernel
theorem dX10_deep_28 : decode cX10_deep 28 = .ok (.iload_n 1, 1) := by decide +kernel
theorem dX10_deep_29 : decode cX10_deep 29 = .ok (.invokevirtual 134, 3) := by decide +kernel
theorem dX10_deep_32 : decode cX10_deep 32 = .ok (.putfield 51, 3) := by decide +kernel
theorem dX10_deep_35 : decode cX10_deep 35 = .ok (.aload_n 0, 1) := by decide +kernel
theorem dX10_deep_36 : decode cX10_deep 36 = .ok (.getfield 28, 3) := by decide +kernel
theorem dX10_deep_39 : decode cX10_deep 39 = .ok (.getfield 137, 3) := by decide +kernel
theorem dX10_deep_42 : decode cX10_deep 42 = .ok (.iload_n 1, 1) := by decide +kernel
theorem dX10_deep_43 : decode cX10_deep 43 = .ok (.iaload, 1) := by decide +kernel
theorem dX10_deep_44 : decode cX10_deep 44 = .ok (.ireturn, 1) := by decide +kernel
theorem dX10_mark_0 : decode cX10_mark 0 = .ok (.aload_n 0, 1) := by decide +kernel
theorem dX10_mark_1 : decode cX10_mark 1 = .ok (.iload_n 1, 1) := by decide +kernel
theorem dX10_mark_2 : decode cX10_mark 2 = .ok (.invokevirtual 121, 3) := by decide +kernel
theorem dX10_mark_5 : decode cX10_mark 5 = .ok (.ifCond .eq 14, 3) := by decide +kernel
theorem dX10_mark_8 : decode cX10_mark 8 = .ok (.iload_n 2, 1) := by decide +kernel
theorem dX10_mark_9 : decode cX10_mark 9 = .ok (.iconst 1, 1) := by decide +kernel
theorem dX10_mark_10 : decode cX10_mark 10 = .ok (.if_icmp .lt 9, 3) := by decide +kernel
theorem dX10_mark_13 : decode cX10_mark 13 = .ok (.iload_n 2, 1) := by decide +kernel
theorem dX10_mark_14 : decode cX10_mark 14 = .ok (.bipush 6, 2) := by decide +kernel
theorem dX10_mark_16 : decode cX10_mark 16 = .ok (.if_icmp .lt 5, 3) := by decide +kernel
theorem dX10_mark_19 : decode cX10_mark 19 = .ok (.iconst (-1), 1) := by decide +kernel
theorem dX10_mark_20 : decode cX10_mark 20 = .ok (.ireturn, 1) := by decide +kernel
theorem dX10_mark_21 : decode cX10_mark 21 = .ok (.aload_n 0, 1) := by decide +kernel
theorem dX10_mark_22 : decode cX10_mark 22 = .ok (.aload_n 0, 1) := by decide +kernel
theorem dX10_mark_23 : decode cX10_mark 23 = .ok (.getfield 28, 3) := by decide +kernel
theorem dX10_mark_26 : decode cX10_mark 26 = .ok (.iload_n 1, 1) := by decide +kernel
theorem dX10_mark_27 : decode cX10_mark 27 = .ok (.invokevirtual 140, 3) := by decide +kernel
theorem dX10_mark_30 : decode cX10_mark 30 = .ok (.iload_n 2, 1) := by decide +kernel
theorem dX10_mark_31 : decode cX10_mark 31 = .ok (.invokevirtual 144, 3) := by decide +kernel
theorem dX10_mark_34 : decode cX10_mark 34 = .ok (.ifCond .ne 9, 3) := by decide +kernel
theorem dX10_mark_37 : decode cX10_mark 37 = .ok (.aload_n 0, 1) := by decide +kernel
theorem dX10_mark_38 : decode cX10_mark 38 = .ok (.iconst 3, 1) := by decide +kernel
theorem dX10_mark_39 : decode cX10_mark 39 = .ok (.invokevirtual 68, 3) := by decide +kernel
theorem dX10_mark_42 : decode cX10_mark 42 = .ok (.ireturn, 1) := by decide +kernel
theorem dX10_mark_43 : decode cX10_mark 43 = .ok (.iload_n 2, 1) := by decide +kernel
theorem dX10_mark_44 : decode cX10_mark 44 = .ok (.tableswitch 113 1 4 #[32, 46, 65, 96], 32) := by decide +kernel
theorem dX10_mark_76 : decode cX10_mark 76 = .ok (.aload_n 0, 1) := by decide +kernel
theorem dX10_mark_77 : decode cX10_mark 77 = .ok (.getfield 28, 3) := by decide +kernel
theorem dX10_mark_80 : decode cX10_mark 80 = .ok (.getfield 148, 3) := by decide +kernel
theorem dX10_mark_83 : decode cX10_mark 83 = .ok (.iload_n 1, 1) := by decide +kernel
theorem dX10_mark_84 : decode cX10_mark 84 = .ok (.iaload, 1) := by decide +kernel
theorem dX10_mark_85 : decode cX10_mark 85 = .ok (.iconst 1, 1) := by decide +kernel
theorem dX10_mark_86 : decode cX10_mark 86 = .ok (.iadd, 1) := by decide +kernel
theorem dX10_mark_87 : decode cX10_mark 87 = .ok (.iconst 2, 1) := by decide +kernel
theorem dX10_mark_88 : decode cX10_mark 88 = .ok (.idiv, 1) := by decide +kernel
theorem dX10_mark_89 : decode cX10_mark 89 = .ok (.ireturn, 1) := by decide +kernel
theorem dX10_mark_90 : decode cX10_mark 90 = .ok (.aload_n 0, 1) := by decide +kernel
theorem dX10_mark_91 : decode cX10_mark 91 = .ok (.getfield 28, 3) := by decide +kernel
theorem dX10_mark_94 : decode cX10_mark 94 = .ok (.iload_n 1, 1) := by decide +kernel
theorem dX10_mark_95 : decode cX10_mark 95 = .ok (.invokevirtual 140, 3) := by decide +kernel
theorem dX10_mark_98 : decode cX10_mark 98 = .ok (.aload_n 0, 1) := by decide +kernel
theorem dX10_mark_99 : decode cX10_mark 99 = .ok (.getfield 28, 3) := by decide +kernel
theorem dX10_mark_102 : decode cX10_mark 102 = .ok (.getfield 151, 3) := by decide +kernel
theorem dX10_mark_105 : decode cX10_mark 105 = .ok (.invokevirtual 154, 3) := by decide +kernel
theorem dX10_mark_108 : decode cX10_mark 108 = .ok (.ireturn, 1) := by decide +kernel
theorem dX10_mark_109 : decode cX10_mark 109 = .ok (.aload_n 0, 1) := by decide +kernel
theorem dX10_mark_110 : decode cX10_mark 110 = .ok (.getfield 28, 3) := by decide +kernel
theorem dX10_mark_113 : decode cX10_mark 113 = .ok (.getfield 159, 3) := by decide +kernel
theorem dX10_mark_116 : decode cX10_mark 116 = .ok (.iload_n 1, 1) := by decide +kernel
theorem dX10_mark_117 : decode cX10_mark 117 = .ok (.iaload, 1) := by decide +kernel
theorem dX10_mark_118 : decode cX10_mark 118 = .ok (.aload_n 0, 1) := by decide +kernel
theorem dX10_mark_119 : decode cX10_mark 119 = .ok (.getfield 28, 3) := by decide +kernel
theorem dX10_mark_122 : decode cX10_mark 122 = .ok (.iload_n 1, 1) := by decide +kernel
theorem dX10_mark_123 : decode cX10_mark 123 = .ok (.invokevirtual 140, 3) := by decide +kernel
theorem dX10_mark_126 : decode cX10_mark 126 = .ok (.aload_n 0, 1) := by decide +kernel
theorem dX10_mark_127 : decode cX10_mark 127 = .ok (.getfield 28, 3) := by decide +kernel
theorem dX10_mark_130 : decode cX10_mark 130 = .ok (.getfield 159, 3) := by decide +kernel
theorem dX10_mark_133 : decode cX10_mark 133 = .ok (.iload_n 1, 1) := by decide +kernel
theorem dX10_mark_134 : decode cX10_mark 134 = .ok (.iaload, 1) := by decide +kernel
theorem dX10_mark_135 : decode cX10_mark 135 = .ok (.invokevirtual 162, 3) := by decide +kernel
theorem dX10_mark_138 : decode cX10_mark 138 = .ok (.isub, 1) := by decide +kernel
theorem dX10_mark_139 : decode cX10_mark 139 = .ok (.ireturn, 1) := by decide +kernel
theorem dX10_mark_140 : decode cX10_mark 140 = .ok (.aload_n 0, 1) := by decide +kernel
theorem dX10_mark_141 : decode cX10_mark 141 = .ok (.getfield 28, 3) := by decide +kernel
theorem dX10_mark_144 : decode cX10_mark 144 = .ok (.iload_n 1, 1) := by decide +kernel
theorem dX10_mark_145 : decode cX10_mark 145 = .ok (.invokevirtual 165, 3) := by decide +kernel
theorem dX10_mark_148 : decode cX10_mark 148 = .ok (.ifCond .eq 7, 3) := by decide +kernel
theorem dX10_mark_151 : decode cX10_mark 151 = .ok (.iconst 1, 1) := by decide +kernel
theorem dX10_mark_152 : decode cX10_mark 152 = .ok (.goto 4, 3) := by decide +kernel
theorem dX10_mark_155 : decode cX10_mark 155 = .ok (.iconst 0, 1) := by decide +kernel
theorem dX10_mark_156 : decode cX10_mark 156 = .ok (.ireturn, 1) := by decide +kernel
theorem dX10_mark_157 : decode cX10_mark 157 = .ok (.aload_n 0, 1) := by decide +kernel
theorem dX10_mark_158 : decode cX10_mark 158 = .ok (.getfield 28, 3) := by decide +kernel
theorem dX10_mark_161 : decode cX10_mark 161 = .ok (.iload_n 1, 1) := by decide +kernel
theorem dX10_mark_162 : decode cX10_mark 162 = .ok (.invokevirtual 165, 3) := by decide +kernel
theorem dX10_mark_165 : decode cX10_mark 165 = .ok (.ifCond .eq 21, 3) := by decide +kernel
theorem dX10_mark_168 : decode cX10_mark 168 = .ok (.aload_n 0, 1) := by decide +kernel
theorem dX10_mark_169 : decode cX10_mark 169 = .ok (.getfield 28, 3) := by decide +kernel
theorem dX10_mark_172 : decode cX10_mark 172 = .ok (.getfield 148, 3) := by decide +kernel
theorem dX10_mark_175 : decode cX10_mark 175 = .ok (.iload_n 1, 1) := by decide +kernel
theorem dX10_mark_176 : decode cX10_mark 176 = .ok (.iaload, 1) := by decide +kernel
theorem dX10_mark_177 : decode cX10_mark 177 = .ok (.bipush 9, 2) := by decide +kernel
theorem dX10_mark_179 : decode cX10_mark 179 = .ok (.if_icmp .ge 7, 3) := by decide +kernel
theorem dX10_mark_182 : decode cX10_mark 182 = .ok (.iconst 1, 1) := by decide +kernel
theorem dX10_mark_183 : decode cX10_mark 183 = .ok (.goto 4, 3) := by decide +kernel
theorem dX10_mark_186 : decode cX10_mark 186 = .ok (.iconst 0, 1) := by decide +kernel
theorem dX10_mark_187 : decode cX10_mark 187 = .ok (.ireturn, 1) := by decide +kernel
theorem dX10_day_0 : decode cX10_day 0 = .ok (.aload_n 0, 1) := by decide +kernel
theorem dX10_day_1 : decode cX10_day 1 = .ok (.getfield 28, 3) := by decide +kernel
theorem dX10_day_4 : decode cX10_day 4 = .ok (.invokevirtual 131, 3) := by decide +kernel
theorem dX10_day_7 : decode cX10_day 7 = .ok (.ifCond .eq 15, 3) := by decide +kernel
theorem dX10_day_10 : decode cX10_day 10 = .ok (.aload_n 0, 1) := by decide +kernel
theorem dX10_day_11 : decode cX10_day 11 = .ok (.getfield 28, 3) := by decide +kernel
theorem dX10_day_14 : decode cX10_day 14 = .ok (.getfield 151, 3) := by decide +kernel
theorem dX10_day_17 : decode cX10_day 17 = .ok (.bipush 99, 2) := by decide +kernel
theorem dX10_day_19 : decode cX10_day 19 = .ok (.if_icmp .lt 6, 3) := by decide +kernel
theorem dX10_day_22 : decode cX10_day 22 = .ok (.bipush (-4), 2) := by decide +kernel
theorem dX10_day_24 : decode cX10_day 24 = .ok (.ireturn, 1) := by decide +kernel
theorem dX10_day_25 : decode cX10_day 25 = .ok (.aload_n 0, 1) := by decide +kernel
theorem dX10_day_26 : decode cX10_day 26 = .ok (.getfield 28, 3) := by decide +kernel
theorem dX10_day_29 : decode cX10_day 29 = .ok (.getfield 168, 3) := by decide +kernel
theorem dX10_day_32 : decode cX10_day 32 = .ok (.bipush 40, 2) := by decide +kernel
theorem dX10_day_34 : decode cX10_day 34 = .ok (.if_icmp .lt 6, 3) := by decide +kernel
theorem dX10_day_37 : decode cX10_day 37 = .ok (.bipush (-2), 2) := by decide +kernel
theorem dX10_day_39 : decode cX10_day 39 = .ok (.ireturn, 1) := by decide +kernel
theorem dX10_day_40 : decode cX10_day 40 = .ok (.aload_n 0, 1) := by decide +kernel
theorem dX10_day_41 : decode cX10_day 41 = .ok (.getfield 28, 3) := by decide +kernel
theorem dX10_day_44 : decode cX10_day 44 = .ok (.iconst 1, 1) := by decide +kernel
theorem dX10_day_45 : decode cX10_day 45 = .ok (.iconst 0, 1) := by decide +kernel
theorem dX10_day_46 : decode cX10_day 46 = .ok (.iconst 0, 1) := by decide +kernel
theorem dX10_day_47 : decode cX10_day 47 = .ok (.invokevirtual 171, 3) := by decide +kernel
theorem dX10_day_50 : decode cX10_day 50 = .ok (.aload_n 0, 1) := by decide +kernel
theorem dX10_day_51 : decode cX10_day 51 = .ok (.getfield 28, 3) := by decide +kernel
theorem dX10_day_54 : decode cX10_day 54 = .ok (.invokevirtual 175, 3) := by decide +kernel
theorem dX10_day_57 : decode cX10_day 57 = .ok (.ireturn, 1) := by decide +kernel
theorem dX10_fall_0 : decode cX10_fall 0 = .ok (.aload_n 0, 1) := by decide +kernel
theorem dX10_fall_1 : decode cX10_fall 1 = .ok (.iload_n 1, 1) := by decide +kernel
theorem dX10_fall_2 : decode cX10_fall 2 = .ok (.invokevirtual 128, 3) := by decide +kernel
theorem dX10_fall_5 : decode cX10_fall 5 = .ok (.ifCond .eq 14, 3) := by decide +kernel
theorem dX10_fall_8 : decode cX10_fall 8 = .ok (.iload_n 2, 1) := by decide +kernel
theorem dX10_fall_9 : decode cX10_fall 9 = .ok (.iconst 1, 1) := by decide +kernel
theorem dX10_fall_10 : decode cX10_fall 10 = .ok (.if_icmp .lt 9, 3) := by decide +kernel
theorem dX10_fall_13 : decode cX10_fall 13 = .ok (.iload_n 2, 1) := by decide +kernel
theorem dX10_fall_14 : decode cX10_fall 14 = .ok (.bipush 9, 2) := by decide +kernel
theorem dX10_fall_16 : decode cX10_fall 16 = .ok (.if_icmp .le 5, 3) := by decide +kernel
theorem dX10_fall_19 : decode cX10_fall 19 = .ok (.iconst (-1), 1) := by decide +kernel
theorem dX10_fall_20 : decode cX10_fall 20 = .ok (.ireturn, 1) := by decide +kernel
theorem dX10_fall_21 : decode cX10_fall 21 = .ok (.aload_n 0, 1) := by decide +kernel
theorem dX10_fall_22 : decode cX10_fall 22 = .ok (.getfield 28, 3) := by decide +kernel
theorem dX10_fall_25 : decode cX10_fall 25 = .ok (.invokevirtual 131, 3) := by decide +kernel
theorem dX10_fall_28 : decode cX10_fall 28 = .ok (.ifCond .eq 17, 3) := by decide +kernel
theorem dX10_fall_31 : decode cX10_fall 31 = .ok (.aload_n 0, 1) := by decide +kernel
theorem dX10_fall_32 : decode cX10_fall 32 = .ok (.getfield 28, 3) := by decide +kernel
theorem dX10_fall_35 : decode cX10_fall 35 = .ok (.getfield 137, 3) := by decide +kernel
theorem dX10_fall_38 : decode cX10_fall 38 = .ok (.iload_n 1, 1) := by decide +kernel
theorem dX10_fall_39 : decode cX10_fall 39 = .ok (.iaload, 1) := by decide +kernel
theorem dX10_fall_40 : decode cX10_fall 40 = .ok (.bipush 9, 2) := by decide +kernel
theorem dX10_fall_42 : decode cX10_fall 42 = .ok (.if_icmp .lt 6, 3) := by decide +kernel
theorem dX10_fall_45 : decode cX10_fall 45 = .ok (.bipush (-4), 2) := by decide +kernel
theorem dX10_fall_47 : decode cX10_fall 47 = .ok (.ireturn, 1) := by decide +kernel
theorem dX10_fall_48 : decode cX10_fall 48 = .ok (.aload_n 0, 1) := by decide +kernel
theorem dX10_fall_49 : decode cX10_fall 49 = .ok (.getfield 28, 3) := by decide +kernel
theorem dX10_fall_52 : decode cX10_fall 52 = .ok (.getfield 168, 3) := by decide +kernel
theorem dX10_fall_55 : decode cX10_fall 55 = .ok (.bipush 40, 2) := by decide +kernel
theorem dX10_fall_57 : decode cX10_fall 57 = .ok (.if_icmp .lt 6, 3) := by decide +kernel
theorem dX10_fall_60 : decode cX10_fall 60 = .ok (.bipush (-2), 2) := by decide +kernel
theorem dX10_fall_62 : decode cX10_fall 62 = .ok (.ireturn, 1) := by decide +kernel
theorem dX10_fall_63 : decode cX10_fall 63 = .ok (.aload_n 0, 1) := by decide +kernel
theorem dX10_fall_64 : decode cX10_fall 64 = .ok (.getfield 28, 3) := by decide +kernel
theorem dX10_fall_67 : decode cX10_fall 67 = .ok (.iconst 2, 1) := by decide +kernel
theorem dX10_fall_68 : decode cX10_fall 68 = .ok (.iload_n 1, 1) := by decide +kernel
theorem dX10_fall_69 : decode cX10_fall 69 = .ok (.iload_n 2, 1) := by decide +kernel
theorem dX10_fall_70 : decode cX10_fall 70 = .ok (.invokevirtual 171, 3) := by decide +kernel
theorem dX10_fall_73 : decode cX10_fall 73 = .ok (.aload_n 0, 1) := by decide +kernel
theorem dX10_fall_74 : decode cX10_fall 74 = .ok (.getfield 28, 3) := by decide +kernel
theorem dX10_fall_77 : decode cX10_fall 77 = .ok (.getfield 137, 3) := by decide +kernel
theorem dX10_fall_80 : decode cX10_fall 80 = .ok (.iload_n 1, 1) := by decide +kernel
theorem dX10_fall_81 : decode cX10_fall 81 = .ok (.iaload, 1) := by decide +kernel
theorem dX10_fall_82 : decode cX10_fall 82 = .ok (.ireturn, 1) := by decide +kernel
theorem dX10_wind_0 : decode cX10_wind 0 = .ok (.aload_n 0, 1) := by decide +kernel
theorem dX10_wind_1 : decode cX10_wind 1 = .ok (.iload_n 1, 1) := by decide +kernel
theorem dX10_wind_2 : decode cX10_wind 2 = .ok (.invokevirtual 128, 3) := by decide +kernel
theorem dX10_wind_5 : decode cX10_wind 5 = .ok (.ifCond .ne 5, 3) := by decide +kernel
theorem dX10_wind_8 : decode cX10_wind 8 = .ok (.iconst (-1), 1) := by decide +kernel
theorem dX10_wind_9 : decode cX10_wind 9 = .ok (.ireturn, 1) := by decide +kernel
theorem dX10_wind_10 : decode cX10_wind 10 = .ok (.aload_n 0, 1) := by decide +kernel
theorem dX10_wind_11 : decode cX10_wind 11 = .ok (.getfield 28, 3) := by decide +kernel
theorem dX10_wind_14 : decode cX10_wind 14 = .ok (.invokevirtual 131, 3) := by decide +kernel
theorem dX10_wind_17 : decode cX10_wind 17 = .ok (.ifCond .eq 15, 3) := by decide +kernel
theorem dX10_wind_20 : decode cX10_wind 20 = .ok (.aload_n 0, 1) := by decide +kernel
theorem dX10_wind_21 : decode cX10_wind 21 = .ok (.getfield 28, 3) := by decide +kernel
theorem dX10_wind_24 : decode cX10_wind 24 = .ok (.getfield 137, 3) := by decide +kernel
theorem dX10_wind_27 : decode cX10_wind 27 = .ok (.iload_n 1, 1) := by decide +kernel
theorem dX10_wind_28 : decode cX10_wind 28 = .ok (.iaload, 1) := by decide +kernel
theorem dX10_wind_29 : decode cX10_wind 29 = .ok (.ifCond .ne 6, 3) := by decide +kernel
theorem dX10_wind_32 : decode cX10_wind 32 = .ok (.bipush (-4), 2) := by decide +kernel
theorem dX10_wind_34 : decode cX10_wind 34 = .ok (.ireturn, 1) := by decide +kernel
theorem dX10_wind_35 : decode cX10_wind 35 = .ok (.aload_n 0, 1) := by decide +kernel
theorem dX10_wind_36 : decode cX10_wind 36 = .ok (.getfield 28, 3) := by decide +kernel
theorem dX10_wind_39 : decode cX10_wind 39 = .ok (.getfield 168, 3) := by decide +kernel
theorem dX10_wind_42 : decode cX10_wind 42 = .ok (.bipush 40, 2) := by decide +kernel
theorem dX10_wind_44 : decode cX10_wind 44 = .ok (.if_icmp .lt 6, 3) := by decide +kernel
theorem dX10_wind_47 : decode cX10_wind 47 = .ok (.bipush (-2), 2) := by decide +kernel
theorem dX10_wind_49 : decode cX10_wind 49 = .ok (.ireturn, 1) := by decide +kernel
theorem dX10_wind_50 : decode cX10_wind 50 = .ok (.aload_n 0, 1) := by decide +kernel
theorem dX10_wind_51 : decode cX10_wind 51 = .ok (.getfield 28, 3) := by decide +kernel
theorem dX10_wind_54 : decode cX10_wind 54 = .ok (.getfield 137, 3) := by decide +kernel
theorem dX10_wind_57 : decode cX10_wind 57 = .ok (.iload_n 1, 1) := by decide +kernel
theorem dX10_wind_58 : decode cX10_wind 58 = .ok (.iaload, 1) := by decide +kernel
theorem dX10_wind_59 : decode cX10_wind 59 = .ok (.istore_n 2, 1) := by decide +kernel
theorem dX10_wind_60 : decode cX10_wind 60 = .ok (.aload_n 0, 1) := by decide +kernel
theorem dX10_wind_61 : decode cX10_wind 61 = .ok (.getfield 28, 3) := by decide +kernel
theorem dX10_wind_64 : decode cX10_wind 64 = .ok (.iconst 3, 1) := by decide +kernel
theorem dX10_wind_65 : decode cX10_wind 65 = .ok (.iload_n 1, 1) := by decide +kernel
theorem dX10_wind_66 : decode cX10_wind 66 = .ok (.iconst 0, 1) := by decide +kernel
theorem dX10_wind_67 : decode cX10_wind 67 = .ok (.invokevirtual 171, 3) := by decide +kernel
theorem dX10_wind_70 : decode cX10_wind 70 = .ok (.iload_n 2, 1) := by decide +kernel
theorem dX10_wind_71 : decode cX10_wind 71 = .ok (.ireturn, 1) := by decide +kernel
theorem dX10_go_0 : decode cX10_go 0 = .ok (.aload_n 0, 1) := by decide +kernel
theorem dX10_go_1 : decode cX10_go 1 = .ok (.iload_n 1, 1) := by decide +kernel
theorem dX10_go_2 : decode cX10_go 2 = .ok (.invokevirtual 121, 3) := by decide +kernel
theorem dX10_go_5 : decode cX10_go 5 = .ok (.ifCond .eq 11, 3) := by decide +kernel
theorem dX10_go_8 : decode cX10_go 8 = .ok (.aload_n 0, 1) := by decide +kernel
theorem dX10_go_9 : decode cX10_go 9 = .ok (.iload_n 2, 1) := by decide +kernel
theorem dX10_go_10 : decode cX10_go 10 = .ok (.invokevirtual 128, 3) := by decide +kernel
theorem dX10_go_13 : decode cX10_go 13 = .ok (.ifCond .ne 5, 3) := by decide +kernel
theorem dX10_go_16 : decode cX10_go 16 = .ok (.iconst (-1), 1) := by decide +kernel
theorem dX10_go_17 : decode cX10_go 17 = .ok (.ireturn, 1) := by decide +kernel
theorem dX10_go_18 : decode cX10_go 18 = .ok (.aload_n 0, 1) := by decide +kernel
theorem dX10_go_19 : decode cX10_go 19 = .ok (.getfield 28, 3) := by decide +kernel
theorem dX10_go_22 : decode cX10_go 22 = .ok (.getfield 179, 3) := by decide +kernel
theorem dX10_go_25 : decode cX10_go 25 = .ok (.iload_n 1, 1) := by decide +kernel
theorem dX10_go_26 : decode cX10_go 26 = .ok (.iaload, 1) := by decide +kernel
theorem dX10_go_27 : decode cX10_go 27 = .ok (.iload_n 2, 1) := by decide +kernel
theorem dX10_go_28 : decode cX10_go 28 = .ok (.if_icmp .ne 6, 3) := by decide +kernel
theorem dX10_go_31 : decode cX10_go 31 = .ok (.bipush (-4), 2) := by decide +kernel
theorem dX10_go_33 : decode cX10_go 33 = .ok (.ireturn, 1) := by decide +kernel
theorem dX10_go_34 : decode cX10_go 34 = .ok (.aload_n 0, 1) := by decide +kernel
theorem dX10_go_35 : decode cX10_go 35 = .ok (.getfield 28, 3) := by decide +kernel
theorem dX10_go_38 : decode cX10_go 38 = .ok (.getfield 168, 3) := by decide +kernel
theorem dX10_go_41 : decode cX10_go 41 = .ok (.bipush 40, 2) := by decide +kernel
theorem dX10_go_43 : decode cX10_go 43 = .ok (.if_icmp .lt 6, 3) := by decide +kernel
theorem dX10_go_46 : decode cX10_go 46 = .ok (.bipush (-2), 2) := by decide +kernel
theorem dX10_go_48 : decode cX10_go 48 = .ok (.ireturn, 1) := by decide +kernel
theorem dX10_go_49 : decode cX10_go 49 = .ok (.aload_n 0, 1) := by decide +kernel
theorem dX10_go_50 : decode cX10_go 50 = .ok (.getfield 28, 3) := by decide +kernel
theorem dX10_go_53 : decode cX10_go 53 = .ok (.getfield 179, 3) := by decide +kernel
theorem dX10_go_56 : decode cX10_go 56 = .ok (.iload_n 1, 1) := by decide +kernel
theorem dX10_go_57 : decode cX10_go 57 = .ok (.iaload, 1) := by decide +kernel
theorem dX10_go_58 : decode cX10_go 58 = .ok (.istore_n 3, 1) := by decide +kernel
theorem dX10_go_59 : decode cX10_go 59 = .ok (.aload_n 0, 1) := by decide +kernel
theorem dX10_go_60 : decode cX10_go 60 = .ok (.getfield 28, 3) := by decide +kernel
theorem dX10_go_63 : decode cX10_go 63 = .ok (.iconst 4, 1) := by decide +kernel
theorem dX10_go_64 : decode cX10_go 64 = .ok (.iload_n 1, 1) := by decide +kernel
theorem dX10_go_65 : decode cX10_go 65 = .ok (.iload_n 2, 1) := by decide +kernel
theorem dX10_go_66 : decode cX10_go 66 = .ok (.invokevirtual 171, 3) := by decide +kernel
theorem dX10_go_69 : decode cX10_go 69 = .ok (.iload_n 3, 1) := by decide +kernel
theorem dX10_go_70 : decode cX10_go 70 = .ok (.ireturn, 1) := by decide +kernel
theorem dX10_undo_0 : decode cX10_undo 0 = .ok (.iload_n 1, 1) := by decide +kernel
theorem dX10_undo_1 : decode cX10_undo 1 = .ok (.ifCond .lt 14, 3) := by decide +kernel
theorem dX10_undo_4 : decode cX10_undo 4 = .ok (.iload_n 1, 1) := by decide +kernel
theorem dX10_undo_5 : decode cX10_undo 5 = .ok (.aload_n 0, 1) := by decide +kernel
theorem dX10_undo_6 : decode cX10_undo 6 = .ok (.getfield 28, 3) := by decide +kernel
theorem dX10_undo_9 : decode cX10_undo 9 = .ok (.getfield 168, 3) := by decide +kernel
theorem dX10_undo_12 : decode cX10_undo 12 = .ok (.if_icmp .le 5, 3) := by decide +kernel
theorem dX10_undo_15 : decode cX10_undo 15 = .ok (.iconst (-1), 1) := by decide +kernel
theorem dX10_undo_16 : decode cX10_undo 16 = .ok (.ireturn, 1) := by decide +kernel
theorem dX10_undo_17 : decode cX10_undo 17 = .ok (.aload_n 0, 1) := by decide +kernel
theorem dX10_undo_18 : decode cX10_undo 18 = .ok (.getfield 28, 3) := by decide +kernel
theorem dX10_undo_21 : decode cX10_undo 21 = .ok (.getfield 168, 3) := by decide +kernel
theorem dX10_undo_24 : decode cX10_undo 24 = .ok (.iload_n 1, 1) := by decide +kernel
theorem dX10_undo_25 : decode cX10_undo 25 = .ok (.isub, 1) := by decide +kernel
theorem dX10_undo_26 : decode cX10_undo 26 = .ok (.istore_n 2, 1) := by decide +kernel
theorem dX10_undo_27 : decode cX10_undo 27 = .ok (.aload_n 0, 1) := by decide +kernel
theorem dX10_undo_28 : decode cX10_undo 28 = .ok (.getfield 28, 3) := by decide +kernel
theorem dX10_undo_31 : decode cX10_undo 31 = .ok (.iload_n 1, 1) := by decide +kernel
theorem dX10_undo_32 : decode cX10_undo 32 = .ok (.invokevirtual 182, 3) := by decide +kernel
theorem dX10_undo_35 : decode cX10_undo 35 = .ok (.iload_n 2, 1) := by decide +kernel
theorem dX10_undo_36 : decode cX10_undo 36 = .ok (.ireturn, 1) := by decide +kernel
theorem dX10_keep_0 : decode cX10_keep 0 = .ok (.aload_n 0, 1) := by decide +kernel
theorem dX10_keep_1 : decode cX10_keep 1 = .ok (.iload_n 1, 1) := by decide +kernel
theorem dX10_keep_2 : decode cX10_keep 2 = .ok (.invokevirtual 185, 3) := by decide +kernel
theorem dX10_keep_5 : decode cX10_keep 5 = .ok (.ifCond .ne 5, 3) := by decide +kernel
theorem dX10_keep_8 : decode cX10_keep 8 = .ok (.iconst (-1), 1) := by decide +kernel
theorem dX10_keep_9 : decode cX10_keep 9 = .ok (.ireturn, 1) := by decide +kernel
theorem dX10_keep_10 : decode cX10_keep 10 = .ok (.aload_n 0, 1) := by decide +kernel
theorem dX10_keep_11 : decode cX10_keep 11 = .ok (.getfield 28, 3) := by decide +kernel
theorem dX10_keep_14 : decode cX10_keep 14 = .ok (.invokevirtual 131, 3) := by decide +kernel
theorem dX10_keep_17 : decode cX10_keep 17 = .ok (.ifCond .ne 6, 3) := by decide +kernel
theorem dX10_keep_20 : decode cX10_keep 20 = .ok (.bipush (-4), 2) := by decide +kernel
theorem dX10_keep_22 : decode cX10_keep 22 = .ok (.ireturn, 1) := by decide +kernel
theorem dX10_keep_23 : decode cX10_keep 23 = .ok (.aload_n 0, 1) := by decide +kernel
theorem dX10_keep_24 : decode cX10_keep 24 = .ok (.getfield 32, 3) := by decide +kernel
theorem dX10_keep_27 : decode cX10_keep 27 = .ok (.iload_n 1, 1) := by decide +kernel
theorem dX10_keep_28 : decode cX10_keep 28 = .ok (.aaload, 1) := by decide +kernel
theorem dX10_keep_29 : decode cX10_keep 29 = .ok (.aload_n 0, 1) := by decide +kernel
theorem dX10_keep_30 : decode cX10_keep 30 = .ok (.getfield 28, 3) := by decide +kernel
theorem dX10_keep_33 : decode cX10_keep 33 = .ok (.invokevirtual 188, 3) := by decide +kernel
theorem dX10_keep_36 : decode cX10_keep 36 = .ok (.aload_n 0, 1) := by decide +kernel
theorem dX10_keep_37 : decode cX10_keep 37 = .ok (.getfield 28, 3) := by decide +kernel
theorem dX10_keep_40 : decode cX10_keep 40 = .ok (.getfield 168, 3) := by decide +kernel
theorem dX10_keep_43 : decode cX10_keep 43 = .ok (.ireturn, 1) := by decide +kernel
theorem dX10_on_0 : decode cX10_on 0 = .ok (.aload_n 0, 1) := by decide +kernel
theorem dX10_on_1 : decode cX10_on 1 = .ok (.iload_n 1, 1) := by decide +kernel
theorem dX10_on_2 : decode cX10_on 2 = .ok (.invokevirtual 185, 3) := by decide +kernel
theorem dX10_on_5 : decode cX10_on 5 = .ok (.ifCond .ne 5, 3) := by decide +kernel
theorem dX10_on_8 : decode cX10_on 8 = .ok (.iconst (-1), 1) := by decide +kernel
theorem dX10_on_9 : decode cX10_on 9 = .ok (.ireturn, 1) := by decide +kernel
theorem dX10_on_10 : decode cX10_on 10 = .ok (.aload_n 0, 1) := by decide +kernel
theorem dX10_on_11 : decode cX10_on 11 = .ok (.getfield 32, 3) := by decide +kernel
theorem dX10_on_14 : decode cX10_on 14 = .ok (.iload_n 1, 1) := by decide +kernel
theorem dX10_on_15 : decode cX10_on 15 = .ok (.aaload, 1) := by decide +kernel
theorem dX10_on_16 : decode cX10_on 16 = .ok (.invokevirtual 131, 3) := by decide +kernel
theorem dX10_on_19 : decode cX10_on 19 = .ok (.ifCond .ne 9, 3) := by decide +kernel
theorem dX10_on_22 : decode cX10_on 22 = .ok (.aload_n 0, 1) := by decide +kernel
theorem dX10_on_23 : decode cX10_on 23 = .ok (.iconst 1, 1) := by decide +kernel
theorem dX10_on_24 : decode cX10_on 24 = .ok (.invokevirtual 68, 3) := by decide +kernel
theorem dX10_on_27 : decode cX10_on 27 = .ok (.ireturn, 1) := by decide +kernel
theorem dX10_on_28 : decode cX10_on 28 = .ok (.aload_n 0, 1) := by decide +kernel
theorem dX10_on_29 : decode cX10_on 29 = .ok (.getfield 28, 3) := by decide +kernel
theorem dX10_on_32 : decode cX10_on 32 = .ok (.aload_n 0, 1) := by decide +kernel
theorem dX10_on_33 : decode cX10_on 33 = .ok (.getfield 32, 3) := by decide +kernel
theorem dX10_on_36 : decode cX10_on 36 = .ok (.iload_n 1, 1) := by decide +kernel
theorem dX10_on_37 : decode cX10_on 37 = .ok (.aaload, 1) := by decide +kernel
theorem dX10_on_38 : decode cX10_on 38 = .ok (.invokevirtual 188, 3) := by decide +kernel
theorem dX10_on_41 : decode cX10_on 41 = .ok (.aload_n 0, 1) := by decide +kernel
theorem dX10_on_42 : decode cX10_on 42 = .ok (.getfield 28, 3) := by decide +kernel
theorem dX10_on_45 : decode cX10_on 45 = .ok (.getfield 168, 3) := by decide +kernel
theorem dX10_on_48 : decode cX10_on 48 = .ok (.ireturn, 1) := by decide +kernel
theorem dX10_meets_0 : decode cX10_meets 0 = .ok (.iconst 0, 1) := by decide +kernel
theorem dX10_meets_1 : decode cX10_meets 1 = .ok (.istore_n 1, 1) := by decide +kernel
theorem dX10_meets_2 : decode cX10_meets 2 = .ok (.iconst 0, 1) := by decide +kernel
theorem dX10_meets_3 : decode cX10_meets 3 = .ok (.istore_n 2, 1) := by decide +kernel
theorem dX10_meets_4 : decode cX10_meets 4 = .ok (.iconst 0, 1) := by decide +kernel
theorem dX10_meets_5 : decode cX10_meets 5 = .ok (.istore_n 3, 1) := by decide +kernel
theorem dX10_meets_6 : decode cX10_meets 6 = .ok (.iload_n 3, 1) := by decide +kernel
theorem dX10_meets_7 : decode cX10_meets 7 = .ok (.aload_n 0, 1) := by decide +kernel
theorem dX10_meets_8 : decode cX10_meets 8 = .ok (.getfield 28, 3) := by decide +kernel
theorem dX10_meets_11 : decode cX10_meets 11 = .ok (.getfield 118, 3) := by decide +kernel
theorem dX10_meets_14 : decode cX10_meets 14 = .ok (.if_icmp .ge 39, 3) := by decide +kernel
theorem dX10_meets_17 : decode cX10_meets 17 = .ok (.aload_n 0, 1) := by decide +kernel
theorem dX10_meets_18 : decode cX10_meets 18 = .ok (.getfield 28, 3) := by decide +kernel
theorem dX10_meets_21 : decode cX10_meets 21 = .ok (.iload_n 3, 1) := by decide +kernel
theorem dX10_meets_22 : decode cX10_meets 22 = .ok (.invokevirtual 192, 3) := by decide +kernel
theorem dX10_meets_25 : decode cX10_meets 25 = .ok (.istore 4, 2) := by decide +kernel
theorem dX10_meets_27 : decode cX10_meets 27 = .ok (.iload 4, 2) := by decide +kernel
theorem dX10_meets_29 : decode cX10_meets 29 = .ok (.ifCond .eq 9, 3) := by decide +kernel
theorem dX10_meets_32 : decode cX10_meets 32 = .ok (.iload_n 1, 1) := by decide +kernel
theorem dX10_meets_33 : decode cX10_meets 33 = .ok (.iconst 1, 1) := by decide +kernel
theorem dX10_meets_34 : decode cX10_meets 34 = .ok (.iload_n 3, 1) := by decide +kernel
theorem dX10_meets_35 : decode cX10_meets 35 = .ok (.ishl, 1) := by decide +kernel
theorem dX10_meets_36 : decode cX10_meets 36 = .ok (.ior, 1) := by decide +kernel
theorem dX10_meets_37 : decode cX10_meets 37 = .ok (.istore_n 1, 1) := by decide +kernel
theorem dX10_meets_38 : decode cX10_meets 38 = .ok (.iload 4, 2) := by decide +kernel
theorem dX10_meets_40 : decode cX10_meets 40 = .ok (.iconst 1, 1) := by decide +kernel
theorem dX10_meets_41 : decode cX10_meets 41 = .ok (.if_icmp .ne 6, 3) := by decide +kernel
theorem dX10_meets_44 : decode cX10_meets 44 = .ok (.iinc 2 1, 3) := by decide +kernel
theorem dX10_meets_47 : decode cX10_meets 47 = .ok (.iinc 3 1, 3) := by decide +kernel
theorem dX10_meets_50 : decode cX10_meets 50 = .ok (.goto (-44), 3) := by decide +kernel
theorem dX10_meets_53 : decode cX10_meets 53 = .ok (.aload_n 0, 1) := by decide +kernel
theorem dX10_meets_54 : decode cX10_meets 54 = .ok (.iload_n 2, 1) := by decide +kernel
theorem dX10_meets_55 : decode cX10_meets 55 = .ok (.putfield 51, 3) := by decide +kernel
theorem dX10_meets_58 : decode cX10_meets 58 = .ok (.iload_n 1, 1) := by decide +kernel
theorem dX10_meets_59 : decode cX10_meets 59 = .ok (.ireturn, 1) := by decide +kernel
theorem dX10_later_0 : decode cX10_later 0 = .ok (.aload_n 0, 1) := by decide +kernel
theorem dX10_later_1 : decode cX10_later 1 = .ok (.iload_n 1, 1) := by decide +kernel
theorem dX10_later_2 : decode cX10_later 2 = .ok (.invokevirtual 121, 3) := by decide +kernel
theorem dX10_later_5 : decode cX10_later 5 = .ok (.ifCond .eq 13, 3) := by decide +kernel
theorem dX10_later_8 : decode cX10_later 8 = .ok (.iload_n 2, 1) := by decide +kernel
theorem dX10_later_9 : decode cX10_later 9 = .ok (.ifCond .lt 9, 3) := by decide +kernel
theorem dX10_later_12 : decode cX10_later 12 = .ok (.iload_n 2, 1) := by decide +kernel
theorem dX10_later_13 : decode cX10_later 13 = .ok (.bipush 60, 2) := by decide +kernel
theorem dX10_later_15 : decode cX10_later 15 = .ok (.if_icmp .le 5, 3) := by decide +kernel
theorem dX10_later_18 : decode cX10_later 18 = .ok (.iconst (-1), 1) := by decide +kernel
theorem dX10_later_19 : decode cX10_later 19 = .ok (.ireturn, 1) := by decide +kernel
theorem dX10_later_20 : decode cX10_later 20 = .ok (.aload_n 0, 1) := by decide +kernel
theorem dX10_later_21 : decode cX10_later 21 = .ok (.getfield 39, 3) := by decide +kernel
theorem dX10_later_24 : decode cX10_later 24 = .ok (.aload_n 0, 1) := by decide +kernel
theorem dX10_later_25 : decode cX10_later 25 = .ok (.getfield 28, 3) := by decide +kernel
theorem dX10_later_28 : decode cX10_later 28 = .ok (.invokevirtual 195, 3) := by decide +kernel
theorem dX10_later_31 : decode cX10_later 31 = .ok (.aload_n 0, 1) := by decide +kernel
theorem dX10_later_32 : decode cX10_later 32 = .ok (.aload_n 0, 1) := by decide +kernel
theorem dX10_later_33 : decode cX10_later 33 = .ok (.getfield 39, 3) := by decide +kernel
theorem dX10_later_36 : decode cX10_later 36 = .ok (.iload_n 2, 1) := by decide +kernel
theorem dX10_later_37 : decode cX10_later 37 = .ok (.invokevirtual 198, 3) := by decide +kernel
theorem dX10_later_40 : decode cX10_later 40 = .ok (.putfield 51, 3) := by decide +kernel
theorem dX10_later_43 : decode cX10_later 43 = .ok (.aload_n 0, 1) := by decide +kernel
theorem dX10_later_44 : decode cX10_later 44 = .ok (.getfield 39, 3) := by decide +kernel
theorem dX10_later_47 : decode cX10_later 47 = .ok (.getfield 201, 3) := by decide +kernel
theorem dX10_later_50 : decode cX10_later 50 = .ok (.iload_n 1, 1) := by decide +kernel
theorem dX10_later_51 : decode cX10_later 51 = .ok (.iaload, 1) := by decide +kernel
theorem dX10_later_52 : decode cX10_later 52 = .ok (.ireturn, 1) := by decide +kernel
theorem dX10_peace_0 : decode cX10_peace 0 = .ok (.aload_n 0, 1) := by decide +kernel
theorem dX10_peace_1 : decode cX10_peace 1 = .ok (.getfield 28, 3) := by decide +kernel
theorem dX10_peace_4 : decode cX10_peace 4 = .ok (.invokevirtual 131, 3) := by decide +kernel
theorem dX10_peace_7 : decode cX10_peace 7 = .ok (.ifCond .ne 6, 3) := by decide +kernel
theorem dX10_peace_10 : decode cX10_peace 10 = .ok (.bipush (-4), 2) := by decide +kernel
theorem dX10_peace_12 : decode cX10_peace 12 = .ok (.ireturn, 1) := by decide +kernel
theorem dX10_peace_13 : decode cX10_peace 13 = .ok (.aload_n 0, 1) := by decide +kernel
theorem dX10_peace_14 : decode cX10_peace 14 = .ok (.getfield 39, 3) := by decide +kernel
theorem dX10_peace_17 : decode cX10_peace 17 = .ok (.aload_n 0, 1) := by decide +kernel
theorem dX10_peace_18 : decode cX10_peace 18 = .ok (.getfield 28, 3) := by decide +kernel
theorem dX10_peace_21 : decode cX10_peace 21 = .ok (.invokevirtual 195, 3) := by decide +kernel
theorem dX10_peace_24 : decode cX10_peace 24 = .ok (.aload_n 0, 1) := by decide +kernel
theorem dX10_peace_25 : decode cX10_peace 25 = .ok (.aload_n 0, 1) := by decide +kernel
theorem dX10_peace_26 : decode cX10_peace 26 = .ok (.getfield 39, 3) := by decide +kernel
theorem dX10_peace_29 : decode cX10_peace 29 = .ok (.invokevirtual 202, 3) := by decide +kernel
theorem dX10_peace_32 : decode cX10_peace 32 = .ok (.invokevirtual 205, 3) := by decide +kernel
theorem dX10_peace_35 : decode cX10_peace 35 = .ok (.ireturn, 1) := by decide +kernel
theorem dX10_left_0 : decode cX10_left 0 = .ok (.iload_n 1, 1) := by decide +kernel
theorem dX10_left_1 : decode cX10_left 1 = .ok (.ifCond .lt 9, 3) := by decide +kernel
theorem dX10_left_4 : decode cX10_left 4 = .ok (.iload_n 1, 1) := by decide +kernel
theorem dX10_left_5 : decode cX10_left 5 = .ok (.bipush 60, 2) := by decide +kernel
theorem dX10_left_7 : decode cX10_left 7 = .ok (.if_icmp .le 5, 3) := by decide +kernel
theorem dX10_left_10 : decode cX10_left 10 = .ok (.iconst (-1), 1) := by decide +kernel
theorem dX10_left_11 : decode cX10_left 11 = .ok (.ireturn, 1) := by decide +kernel
theorem dX10_left_12 : decode cX10_left 12 = .ok (.aload_n 0, 1) := by decide +kernel
theorem dX10_left_13 : decode cX10_left 13 = .ok (.getfield 28, 3) := by decide +kernel
theorem dX10_left_16 : decode cX10_left 16 = .ok (.invokevirtual 131, 3) := by decide +kernel
theorem dX10_left_19 : decode cX10_left 19 = .ok (.ifCond .ne 6, 3) := by decide +kernel
theorem dX10_left_22 : decode cX10_left 22 = .ok (.bipush (-4), 2) := by decide +kernel
theorem dX10_left_24 : decode cX10_left 24 = .ok (.ireturn, 1) := by decide +kernel
theorem dX10_left_25 : decode cX10_left 25 = .ok (.aload_n 0, 1) := by decide +kernel
theorem dX10_left_26 : decode cX10_left 26 = .ok (.getfield 39, 3) := by decide +kernel
theorem dX10_left_29 : decode cX10_left 29 = .ok (.aload_n 0, 1) := by decide +kernel
theorem dX10_left_30 : decode cX10_left 30 = .ok (.getfield 28, 3) := by decide +kernel
theorem dX10_left_33 : decode cX10_left 33 = .ok (.invokevirtual 195, 3) := by decide +kernel
theorem dX10_left_36 : decode cX10_left 36 = .ok (.aload_n 0, 1) := by decide +kernel
theorem dX10_left_37 : decode cX10_left 37 = .ok (.getfield 39, 3) := by decide +kernel
theorem dX10_left_40 : decode cX10_left 40 = .ok (.iload_n 1, 1) := by decide +kernel
theorem dX10_left_41 : decode cX10_left 41 = .ok (.invokevirtual 198, 3) := by decide +kernel
theorem dX10_left_44 : decode cX10_left 44 = .ok (.istore_n 2, 1) := by decide +kernel
theorem dX10_left_45 : decode cX10_left 45 = .ok (.aload_n 0, 1) := by decide +kernel
theorem dX10_left_46 : decode cX10_left 46 = .ok (.aload_n 0, 1) := by decide +kernel
theorem dX10_left_47 : decode cX10_left 47 = .ok (.getfield 39, 3) := by decide +kernel
theorem dX10_left_50 : decode cX10_left 50 = .ok (.invokevirtual 208, 3) := by decide +kernel
theorem dX10_left_53 : decode cX10_left 53 = .ok (.putfield 51, 3) := by decide +kernel
theorem dX10_left_56 : decode cX10_left 56 = .ok (.iload_n 2, 1) := by decide +kernel
theorem dX10_left_57 : decode cX10_left 57 = .ok (.ireturn, 1) := by decide +kernel
theorem dX10_ash_0 : decode cX10_ash 0 = .ok (.iload_n 1, 1) := by decide +kernel
theorem dX10_ash_1 : decode cX10_ash 1 = .ok (.iconst 1, 1) := by decide +kernel
theorem dX10_ash_2 : decode cX10_ash 2 = .ok (.if_icmp .lt 9, 3) := by decide +kernel
theorem dX10_ash_5 : decode cX10_ash 5 = .ok (.iload_n 1, 1) := by decide +kernel
theorem dX10_ash_6 : decode cX10_ash 6 = .ok (.bipush 40, 2) := by decide +kernel
theorem dX10_ash_8 : decode cX10_ash 8 = .ok (.if_icmp .le 5, 3) := by decide +kernel
theorem dX10_ash_11 : decode cX10_ash 11 = .ok (.iconst (-1), 1) := by decide +kernel
theorem dX10_ash_12 : decode cX10_ash 12 = .ok (.ireturn, 1) := by decide +kernel
theorem dX10_ash_13 : decode cX10_ash 13 = .ok (.aload_n 0, 1) := by decide +kernel
theorem dX10_ash_14 : decode cX10_ash 14 = .ok (.getfield 28, 3) := by decide +kernel
theorem dX10_ash_17 : decode cX10_ash 17 = .ok (.invokevirtual 131, 3) := by decide +kernel
theorem dX10_ash_20 : decode cX10_ash 20 = .ok (.ifCond .ne 6, 3) := by decide +kernel
theorem dX10_ash_23 : decode cX10_ash 23 = .ok (.bipush (-4), 2) := by decide +kernel
theorem dX10_ash_25 : decode cX10_ash 25 = .ok (.ireturn, 1) := by decide +kernel
theorem dX10_ash_26 : decode cX10_ash 26 = .ok (.aload_n 0, 1) := by decide +kernel
theorem dX10_ash_27 : decode cX10_ash 27 = .ok (.getfield 39, 3) := by decide +kernel
theorem dX10_ash_30 : decode cX10_ash 30 = .ok (.aload_n 0, 1) := by decide +kernel
theorem dX10_ash_31 : decode cX10_ash 31 = .ok (.getfield 28, 3) := by decide +kernel
theorem dX10_ash_34 : decode cX10_ash 34 = .ok (.invokevirtual 195, 3) := by decide +kernel
theorem dX10_ash_37 : decode cX10_ash 37 = .ok (.aload_n 0, 1) := by decide +kernel
theorem dX10_ash_38 : decode cX10_ash 38 = .ok (.aload_n 0, 1) := by decide +kernel
theorem dX10_ash_39 : decode cX10_ash 39 = .ok (.getfield 39, 3) := by decide +kernel
theorem dX10_ash_42 : decode cX10_ash 42 = .ok (.iload_n 1, 1) := by decide +kernel
theorem dX10_ash_43 : decode cX10_ash 43 = .ok (.invokevirtual 211, 3) := by decide +kernel
theorem dX10_ash_46 : decode cX10_ash 46 = .ok (.invokevirtual 205, 3) := by decide +kernel
theorem dX10_ash_49 : decode cX10_ash 49 = .ok (.ireturn, 1) := by decide +kernel
theorem dX10_best_0 : decode cX10_best 0 = .ok (.iload_n 1, 1) := by decide +kernel
theorem dX10_best_1 : decode cX10_best 1 = .ok (.iconst 1, 1) := by decide +kernel
theorem dX10_best_2 : decode cX10_best 2 = .ok (.if_icmp .lt 9, 3) := by decide +kernel
theorem dX10_best_5 : decode cX10_best 5 = .ok (.iload_n 1, 1) := by decide +kernel
theorem dX10_best_6 : decode cX10_best 6 = .ok (.bipush 40, 2) := by decide +kernel
theorem dX10_best_8 : decode cX10_best 8 = .ok (.if_icmp .le 5, 3) := by decide +kernel
theorem dX10_best_11 : decode cX10_best 11 = .ok (.iconst (-1), 1) := by decide +kernel
theorem dX10_best_12 : decode cX10_best 12 = .ok (.ireturn, 1) := by decide +kernel
theorem dX10_best_13 : decode cX10_best 13 = .ok (.aload_n 0, 1) := by decide +kernel
theorem dX10_best_14 : decode cX10_best 14 = .ok (.getfield 28, 3) := by decide +kernel
theorem dX10_best_17 : decode cX10_best 17 = .ok (.invokevirtual 131, 3) := by decide +kernel
theorem dX10_best_20 : decode cX10_best 20 = .ok (.ifCond .ne 6, 3) := by decide +kernel
theorem dX10_best_23 : decode cX10_best 23 = .ok (.bipush (-4), 2) := by decide +kernel
theorem dX10_best_25 : decode cX10_best 25 = .ok (.ireturn, 1) := by decide +kernel
theorem dX10_best_26 : decode cX10_best 26 = .ok (.aload_n 0, 1) := by decide +kernel
theorem dX10_best_27 : decode cX10_best 27 = .ok (.getfield 39, 3) := by decide +kernel
theorem dX10_best_30 : decode cX10_best 30 = .ok (.aload_n 0, 1) := by decide +kernel
theorem dX10_best_31 : decode cX10_best 31 = .ok (.getfield 28, 3) := by decide +kernel
theorem dX10_best_34 : decode cX10_best 34 = .ok (.invokevirtual 195, 3) := by decide +kernel
theorem dX10_best_37 : decode cX10_best 37 = .ok (.aload_n 0, 1) := by decide +kernel
theorem dX10_best_38 : decode cX10_best 38 = .ok (.aload_n 0, 1) := by decide +kernel
theorem dX10_best_39 : decode cX10_best 39 = .ok (.getfield 39, 3) := by decide +kernel
theorem dX10_best_42 : decode cX10_best 42 = .ok (.iload_n 1, 1) := by decide +kernel
theorem dX10_best_43 : decode cX10_best 43 = .ok (.invokevirtual 214, 3) := by decide +kernel
theorem dX10_best_46 : decode cX10_best 46 = .ok (.invokevirtual 205, 3) := by decide +kernel
theorem dX10_best_49 : decode cX10_best 49 = .ok (.ireturn, 1) := by decide +kernel
theorem dX10_kinds_0 : decode cX10_kinds 0 = .ok (.aload_n 0, 1) := by decide +kernel
theorem dX10_kinds_1 : decode cX10_kinds 1 = .ok (.iload_n 1, 1) := by decide +kernel
theorem dX10_kinds_2 : decode cX10_kinds 2 = .ok (.iload_n 2, 1) := by decide +kernel
theorem dX10_kinds_3 : decode cX10_kinds 3 = .ok (.invokevirtual 217, 3) := by decide +kernel
theorem dX10_kinds_6 : decode cX10_kinds 6 = .ok (.istore_n 3, 1) := by decide +kernel
theorem dX10_kinds_7 : decode cX10_kinds 7 = .ok (.iload_n 3, 1) := by decide +kernel
theorem dX10_kinds_8 : decode cX10_kinds 8 = .ok (.ifCond .eq 5, 3) := by decide +kernel
theorem dX10_kinds_11 : decode cX10_kinds 11 = .ok (.iload_n 3, 1) := by decide +kernel
theorem dX10_kinds_12 : decode cX10_kinds 12 = .ok (.ireturn, 1) := by decide +kernel
theorem dX10_kinds_13 : decode cX10_kinds 13 = .ok (.aload_n 0, 1) := by decide +kernel
theorem dX10_kinds_14 : decode cX10_kinds 14 = .ok (.getfield 39, 3) := by decide +kernel
theorem dX10_kinds_17 : decode cX10_kinds 17 = .ok (.aload_n 0, 1) := by decide +kernel
theorem dX10_kinds_18 : decode cX10_kinds 18 = .ok (.getfield 28, 3) := by decide +kernel
theorem dX10_kinds_21 : decode cX10_kinds 21 = .ok (.invokevirtual 195, 3) := by decide +kernel
theorem dX10_kinds_24 : decode cX10_kinds 24 = .ok (.aload_n 0, 1) := by decide +kernel
theorem dX10_kinds_25 : decode cX10_kinds 25 = .ok (.getfield 39, 3) := by decide +kernel
theorem dX10_kinds_28 : decode cX10_kinds 28 = .ok (.iload_n 1, 1) := by decide +kernel
theorem dX10_kinds_29 : decode cX10_kinds 29 = .ok (.aload_n 0, 1) := by decide +kernel
theorem dX10_kinds_30 : decode cX10_kinds 30 = .ok (.getfield 11, 3) := by decide +kernel
theorem dX10_kinds_33 : decode cX10_kinds 33 = .ok (.iload_n 2, 1) := by decide +kernel
theorem dX10_kinds_34 : decode cX10_kinds 34 = .ok (.aaload, 1) := by decide +kernel
theorem dX10_kinds_35 : decode cX10_kinds 35 = .ok (.invokevirtual 220, 3) := by decide +kernel
theorem dX10_kinds_38 : decode cX10_kinds 38 = .ok (.ireturn, 1) := by decide +kernel
theorem dX10_highs_0 : decode cX10_highs 0 = .ok (.aload_n 0, 1) := by decide +kernel
theorem dX10_highs_1 : decode cX10_highs 1 = .ok (.iload_n 1, 1) := by decide +kernel
theorem dX10_highs_2 : decode cX10_highs 2 = .ok (.iload_n 2, 1) := by decide +kernel
theorem dX10_highs_3 : decode cX10_highs 3 = .ok (.invokevirtual 217, 3) := by decide +kernel
theorem dX10_highs_6 : decode cX10_highs 6 = .ok (.istore_n 3, 1) := by decide +kernel
theorem dX10_highs_7 : decode cX10_highs 7 = .ok (.iload_n 3, 1) := by decide +kernel
theorem dX10_highs_8 : decode cX10_highs 8 = .ok (.ifCond .eq 5, 3) := by decide +kernel
theorem dX10_highs_11 : decode cX10_highs 11 = .ok (.iload_n 3, 1) := by decide +kernel
theorem dX10_highs_12 : decode cX10_highs 12 = .ok (.ireturn, 1) := by decide +kernel
theorem dX10_highs_13 : decode cX10_highs 13 = .ok (.aload_n 0, 1) := by decide +kernel
theorem dX10_highs_14 : decode cX10_highs 14 = .ok (.getfield 39, 3) := by decide +kernel
theorem dX10_highs_17 : decode cX10_highs 17 = .ok (.aload_n 0, 1) := by decide +kernel
theorem dX10_highs_18 : decode cX10_highs 18 = .ok (.getfield 28, 3) := by decide +kernel
theorem dX10_highs_21 : decode cX10_highs 21 = .ok (.invokevirtual 195, 3) := by decide +kernel
theorem dX10_highs_24 : decode cX10_highs 24 = .ok (.aload_n 0, 1) := by decide +kernel
theorem dX10_highs_25 : decode cX10_highs 25 = .ok (.getfield 39, 3) := by decide +kernel
theorem dX10_highs_28 : decode cX10_highs 28 = .ok (.iload_n 1, 1) := by decide +kernel
theorem dX10_highs_29 : decode cX10_highs 29 = .ok (.aload_n 0, 1) := by decide +kernel
theorem dX10_highs_30 : decode cX10_highs 30 = .ok (.getfield 11, 3) := by decide +kernel
theorem dX10_highs_33 : decode cX10_highs 33 = .ok (.iload_n 2, 1) := by decide +kernel
theorem dX10_highs_34 : decode cX10_highs 34 = .ok (.aaload, 1) := by decide +kernel
theorem dX10_highs_35 : decode cX10_highs 35 = .ok (.invokevirtual 224, 3) := by decide +kernel
theorem dX10_highs_38 : decode cX10_highs 38 = .ok (.ireturn, 1) := by decide +kernel
theorem dX10_test_0 : decode cX10_test 0 = .ok (.aload_n 0, 1) := by decide +kernel
theorem dX10_test_1 : decode cX10_test 1 = .ok (.iload_n 1, 1) := by decide +kernel
theorem dX10_test_2 : decode cX10_test 2 = .ok (.iload_n 2, 1) := by decide +kernel
theorem dX10_test_3 : decode cX10_test 3 = .ok (.invokevirtual 217, 3) := by decide +kernel
theorem dX10_test_6 : decode cX10_test 6 = .ok (.istore_n 3, 1) := by decide +kernel
theorem dX10_test_7 : decode cX10_test 7 = .ok (.iload_n 3, 1) := by decide +kernel
theorem dX10_test_8 : decode cX10_test 8 = .ok (.ifCond .eq 5, 3) := by decide +kernel
theorem dX10_test_11 : decode cX10_test 11 = .ok (.iload_n 3, 1) := by decide +kernel
theorem dX10_test_12 : decode cX10_test 12 = .ok (.ireturn, 1) := by decide +kernel
theorem dX10_test_13 : decode cX10_test 13 = .ok (.aload_n 0, 1) := by decide +kernel
theorem dX10_test_14 : decode cX10_test 14 = .ok (.getfield 39, 3) := by decide +kernel
theorem dX10_test_17 : decode cX10_test 17 = .ok (.aload_n 0, 1) := by decide +kernel
theorem dX10_test_18 : decode cX10_test 18 = .ok (.getfield 28, 3) := by decide +kernel
theorem dX10_test_21 : decode cX10_test 21 = .ok (.invokevirtual 195, 3) := by decide +kernel
theorem dX10_test_24 : decode cX10_test 24 = .ok (.aload_n 0, 1) := by decide +kernel
theorem dX10_test_25 : decode cX10_test 25 = .ok (.aload_n 0, 1) := by decide +kernel
theorem dX10_test_26 : decode cX10_test 26 = .ok (.getfield 39, 3) := by decide +kernel
theorem dX10_test_29 : decode cX10_test 29 = .ok (.iload_n 1, 1) := by decide +kernel
theorem dX10_test_30 : decode cX10_test 30 = .ok (.aload_n 0, 1) := by decide +kernel
theorem dX10_test_31 : decode cX10_test 31 = .ok (.getfield 11, 3) := by decide +kernel
theorem dX10_test_34 : decode cX10_test 34 = .ok (.iload_n 2, 1) := by decide +kernel
theorem dX10_test_35 : decode cX10_test 35 = .ok (.aaload, 1) := by decide +kernel
theorem dX10_test_36 : decode cX10_test 36 = .ok (.invokevirtual 227, 3) := by decide +kernel
theorem dX10_test_39 : decode cX10_test 39 = .ok (.invokevirtual 205, 3) := by decide +kernel
theorem dX10_test_42 : decode cX10_test 42 = .ok (.ireturn, 1) := by decide +kernel
theorem dX10_duel_0 : decode cX10_duel 0 = .ok (.iload_n 1, 1) := by decide +kernel
theorem dX10_duel_1 : decode cX10_duel 1 = .ok (.ifCond .lt 8, 3) := by decide +kernel
theorem dX10_duel_4 : decode cX10_duel 4 = .ok (.iload_n 1, 1) := by decide +kernel
theorem dX10_duel_5 : decode cX10_duel 5 = .ok (.iconst 3, 1) := by decide +kernel
theorem dX10_duel_6 : decode cX10_duel 6 = .ok (.if_icmp .le 5, 3) := by decide +kernel
theorem dX10_duel_9 : decode cX10_duel 9 = .ok (.iconst (-1), 1) := by decide +kernel
theorem dX10_duel_10 : decode cX10_duel 10 = .ok (.ireturn, 1) := by decide +kernel
theorem dX10_duel_11 : decode cX10_duel 11 = .ok (.aload_n 0, 1) := by decide +kernel
theorem dX10_duel_12 : decode cX10_duel 12 = .ok (.getfield 28, 3) := by decide +kernel
theorem dX10_duel_15 : decode cX10_duel 15 = .ok (.invokevirtual 131, 3) := by decide +kernel
theorem dX10_duel_18 : decode cX10_duel 18 = .ok (.ifCond .ne 6, 3) := by decide +kernel
theorem dX10_duel_21 : decode cX10_duel 21 = .ok (.bipush (-4), 2) := by decide +kernel
theorem dX10_duel_23 : decode cX10_duel 23 = .ok (.ireturn, 1) := by decide +kernel
theorem dX10_duel_24 : decode cX10_duel 24 = .ok (.aload_n 0, 1) := by decide +kernel
theorem dX10_duel_25 : decode cX10_duel 25 = .ok (.getfield 39, 3) := by decide +kernel
theorem dX10_duel_28 : decode cX10_duel 28 = .ok (.aload_n 0, 1) := by decide +kernel
theorem dX10_duel_29 : decode cX10_duel 29 = .ok (.getfield 28, 3) := by decide +kernel
theorem dX10_duel_32 : decode cX10_duel 32 = .ok (.invokevirtual 195, 3) := by decide +kernel
theorem dX10_duel_35 : decode cX10_duel 35 = .ok (.aload_n 0, 1) := by decide +kernel
theorem dX10_duel_36 : decode cX10_duel 36 = .ok (.getfield 39, 3) := by decide +kernel
theorem dX10_duel_39 : decode cX10_duel 39 = .ok (.iload_n 1, 1) := by decide +kernel
theorem dX10_duel_40 : decode cX10_duel 40 = .ok (.invokevirtual 230, 3) := by decide +kernel
theorem dX10_duel_43 : decode cX10_duel 43 = .ok (.ireturn, 1) := by decide +kernel
theorem dX10_odds_0 : decode cX10_odds 0 = .ok (.iload_n 1, 1) := by decide +kernel
theorem dX10_odds_1 : decode cX10_odds 1 = .ok (.ifCond .lt 18, 3) := by decide +kernel
theorem dX10_odds_4 : decode cX10_odds 4 = .ok (.iload_n 1, 1) := by decide +kernel
theorem dX10_odds_5 : decode cX10_odds 5 = .ok (.bipush 63, 2) := by decide +kernel
theorem dX10_odds_7 : decode cX10_odds 7 = .ok (.if_icmp .gt 12, 3) := by decide +kernel
theorem dX10_odds_10 : decode cX10_odds 10 = .ok (.aload_n 0, 1) := by decide +kernel
theorem dX10_odds_11 : decode cX10_odds 11 = .ok (.iload_n 2, 1) := by decide +kernel
theorem dX10_odds_12 : decode cX10_odds 12 = .ok (.iload_n 3, 1) := by decide +kernel
theorem dX10_odds_13 : decode cX10_odds 13 = .ok (.invokevirtual 233, 3) := by decide +kernel
theorem dX10_odds_16 : decode cX10_odds 16 = .ok (.ifCond .ne 5, 3) := by decide +kernel
theorem dX10_odds_19 : decode cX10_odds 19 = .ok (.iconst (-1), 1) := by decide +kernel
theorem dX10_odds_20 : decode cX10_odds 20 = .ok (.ireturn, 1) := by decide +kernel
theorem dX10_odds_21 : decode cX10_odds 21 = .ok (.aload_n 0, 1) := by decide +kernel
theorem dX10_odds_22 : decode cX10_odds 22 = .ok (.getfield 28, 3) := by decide +kernel
theorem dX10_odds_25 : decode cX10_odds 25 = .ok (.invokevirtual 131, 3) := by decide +kernel
theorem dX10_odds_28 : decode cX10_odds 28 = .ok (.ifCond .ne 6, 3) := by decide +kernel
theorem dX10_odds_31 : decode cX10_odds 31 = .ok (.bipush (-4), 2) := by decide +kernel
theorem dX10_odds_33 : decode cX10_odds 33 = .ok (.ireturn, 1) := by decide +kernel
theorem dX10_odds_34 : decode cX10_odds 34 = .ok (.aload_n 0, 1) := by decide +kernel
theorem dX10_odds_35 : decode cX10_odds 35 = .ok (.getfield 39, 3) := by decide +kernel
theorem dX10_odds_38 : decode cX10_odds 38 = .ok (.aload_n 0, 1) := by decide +kernel
theorem dX10_odds_39 : decode cX10_odds 39 = .ok (.getfield 28, 3) := by decide +kernel
theorem dX10_odds_42 : decode cX10_odds 42 = .ok (.invokevirtual 195, 3) := by decide +kernel
theorem dX10_odds_45 : decode cX10_odds 45 = .ok (.aload_n 0, 1) := by decide +kernel
theorem dX10_odds_46 : decode cX10_odds 46 = .ok (.getfield 39, 3) := by decide +kernel
theorem dX10_odds_49 : decode cX10_odds 49 = .ok (.iload_n 1, 1) := by decide +kernel
theorem dX10_odds_50 : decode cX10_odds 50 = .ok (.iload_n 2, 1) := by decide +kernel
theorem dX10_odds_51 : decode cX10_odds 51 = .ok (.iload_n 3, 1) := by decide +kernel
theorem dX10_odds_52 : decode cX10_odds 52 = .ok (.invokevirtual 236, 3) := by decide +kernel
theorem dX10_odds_55 : decode cX10_odds 55 = .ok (.aload_n 0, 1) := by decide +kernel
theorem dX10_odds_56 : decode cX10_odds 56 = .ok (.aload_n 0, 1) := by decide +kernel
theorem dX10_odds_57 : decode cX10_odds 57 = .ok (.getfield 39, 3) := by decide +kernel
theorem dX10_odds_60 : decode cX10_odds 60 = .ok (.getfield 239, 3) := by decide +kernel
theorem dX10_odds_63 : decode cX10_odds 63 = .ok (.aload_n 0, 1) := by decide +kernel
theorem dX10_odds_64 : decode cX10_odds 64 = .ok (.getfield 39, 3) := by decide +kernel
theorem dX10_odds_67 : decode cX10_odds 67 = .ok (.getfield 242, 3) := by decide +kernel
theorem dX10_odds_70 : decode cX10_odds 70 = .ok (.invokevirtual 245, 3) := by decide +kernel
theorem dX10_odds_73 : decode cX10_odds 73 = .ok (.iconst 1, 1) := by decide +kernel
theorem dX10_odds_74 : decode cX10_odds 74 = .ok (.ireturn, 1) := by decide +kernel
theorem dX10_mid_0 : decode cX10_mid 0 = .ok (.aload_n 0, 1) := by decide +kernel
theorem dX10_mid_1 : decode cX10_mid 1 = .ok (.iload_n 1, 1) := by decide +kernel
theorem dX10_mid_2 : decode cX10_mid 2 = .ok (.iload_n 2, 1) := by decide +kernel
theorem dX10_mid_3 : decode cX10_mid 3 = .ok (.invokevirtual 233, 3) := by decide +kernel
theorem dX10_mid_6 : decode cX10_mid 6 = .ok (.ifCond .ne 5, 3) := by decide +kernel
theorem dX10_mid_9 : decode cX10_mid 9 = .ok (.iconst (-1), 1) := by decide +kernel
theorem dX10_mid_10 : decode cX10_mid 10 = .ok (.ireturn, 1) := by decide +kernel
theorem dX10_mid_11 : decode cX10_mid 11 = .ok (.aload_n 0, 1) := by decide +kernel
theorem dX10_mid_12 : decode cX10_mid 12 = .ok (.getfield 28, 3) := by decide +kernel
theorem dX10_mid_15 : decode cX10_mid 15 = .ok (.invokevirtual 131, 3) := by decide +kernel
theorem dX10_mid_18 : decode cX10_mid 18 = .ok (.ifCond .ne 6, 3) := by decide +kernel
theorem dX10_mid_21 : decode cX10_mid 21 = .ok (.bipush (-4), 2) := by decide +kernel
theorem dX10_mid_23 : decode cX10_mid 23 = .ok (.ireturn, 1) := by decide +kernel
theorem dX10_mid_24 : decode cX10_mid 24 = .ok (.aload_n 0, 1) := by decide +kernel
theorem dX10_mid_25 : decode cX10_mid 25 = .ok (.getfield 39, 3) := by decide +kernel
theorem dX10_mid_28 : decode cX10_mid 28 = .ok (.aload_n 0, 1) := by decide +kernel
theorem dX10_mid_29 : decode cX10_mid 29 = .ok (.getfield 28, 3) := by decide +kernel
theorem dX10_mid_32 : decode cX10_mid 32 = .ok (.invokevirtual 195, 3) := by decide +kernel
theorem dX10_mid_35 : decode cX10_mid 35 = .ok (.aload_n 0, 1) := by decide +kernel
theorem dX10_mid_36 : decode cX10_mid 36 = .ok (.getfield 39, 3) := by decide +kernel
theorem dX10_mid_39 : decode cX10_mid 39 = .ok (.iconst 0, 1) := by decide +kernel
theorem dX10_mid_40 : decode cX10_mid 40 = .ok (.iload_n 1, 1) := by decide +kernel
theorem dX10_mid_41 : decode cX10_mid 41 = .ok (.iload_n 2, 1) := by decide +kernel
theorem dX10_mid_42 : decode cX10_mid 42 = .ok (.invokevirtual 236, 3) := by decide +kernel
theorem dX10_mid_45 : decode cX10_mid 45 = .ok (.aload_n 0, 1) := by decide +kernel
theorem dX10_mid_46 : decode cX10_mid 46 = .ok (.aload_n 0, 1) := by decide +kernel
theorem dX10_mid_47 : decode cX10_mid 47 = .ok (.getfield 39, 3) := by decide +kernel
theorem dX10_mid_50 : decode cX10_mid 50 = .ok (.getfield 249, 3) := by decide +kernel
theorem dX10_mid_53 : decode cX10_mid 53 = .ok (.aload_n 0, 1) := by decide +kernel
theorem dX10_mid_54 : decode cX10_mid 54 = .ok (.getfield 39, 3) := by decide +kernel
theorem dX10_mid_57 : decode cX10_mid 57 = .ok (.getfield 242, 3) := by decide +kernel
theorem dX10_mid_60 : decode cX10_mid 60 = .ok (.invokevirtual 245, 3) := by decide +kernel
theorem dX10_mid_63 : decode cX10_mid 63 = .ok (.iconst 1, 1) := by decide +kernel
theorem dX10_mid_64 : decode cX10_mid 64 = .ok (.ireturn, 1) := by decide +kernel
theorem dX10_lots_0 : decode cX10_lots 0 = .ok (.iload_n 1, 1) := by decide +kernel
theorem dX10_lots_1 : decode cX10_lots 1 = .ok (.iconst 1, 1) := by decide +kernel
theorem dX10_lots_2 : decode cX10_lots 2 = .ok (.if_icmp .lt 23, 3) := by decide +kernel
theorem dX10_lots_5 : decode cX10_lots 5 = .ok (.iload_n 1, 1) := by decide +kernel
theorem dX10_lots_6 : decode cX10_lots 6 = .ok (.bipush 20, 2) := by decide +kernel
theorem dX10_lots_8 : decode cX10_lots 8 = .ok (.if_icmp .gt 17, 3) := by decide +kernel
theorem dX10_lots_11 : decode cX10_lots 11 = .ok (.iload_n 2, 1) := by decide +kernel
theorem dX10_lots_12 : decode cX10_lots 12 = .ok (.iconst 1, 1) := by decide +kernel
theorem dX10_lots_13 : decode cX10_lots 13 = .ok (.if_icmp .lt 12, 3) := by decide +kernel
theorem dX10_lots_16 : decode cX10_lots 16 = .ok (.iload_n 2, 1) := by decide +kernel
theorem dX10_lots_17 : decode cX10_lots 17 = .ok (.i2l, 1) := by decide +kernel
theorem dX10_lots_18 : decode cX10_lots 18 = .ok (.ldc2_w 252, 3) := by decide +kernel
theorem dX10_lots_21 : decode cX10_lots 21 = .ok (.lcmp, 1) := by decide +kernel
theorem dX10_lots_22 : decode cX10_lots 22 = .ok (.ifCond .lt 5, 3) := by decide +kernel
theorem dX10_lots_25 : decode cX10_lots 25 = .ok (.iconst (-1), 1) := by decide +kernel
theorem dX10_lots_26 : decode cX10_lots 26 = .ok (.ireturn, 1) := by decide +kernel
theorem dX10_lots_27 : decode cX10_lots 27 = .ok (.aload_n 0, 1) := by decide +kernel
theorem dX10_lots_28 : decode cX10_lots 28 = .ok (.getfield 28, 3) := by decide +kernel
theorem dX10_lots_31 : decode cX10_lots 31 = .ok (.invokevirtual 131, 3) := by decide +kernel
theorem dX10_lots_34 : decode cX10_lots 34 = .ok (.ifCond .ne 6, 3) := by decide +kernel
theorem dX10_lots_37 : decode cX10_lots 37 = .ok (.bipush (-4), 2) := by decide +kernel
theorem dX10_lots_39 : decode cX10_lots 39 = .ok (.ireturn, 1) := by decide +kernel
theorem dX10_lots_40 : decode cX10_lots 40 = .ok (.aload_n 0, 1) := by decide +kernel
theorem dX10_lots_41 : decode cX10_lots 41 = .ok (.getfield 28, 3) := by decide +kernel
theorem dX10_lots_44 : decode cX10_lots 44 = .ok (.getfield 168, 3) := by decide +kernel
theorem dX10_lots_47 : decode cX10_lots 47 = .ok (.iload_n 1, 1) := by decide +kernel
theorem dX10_lots_48 : decode cX10_lots 48 = .ok (.iadd, 1) := by decide +kernel
theorem dX10_lots_49 : decode cX10_lots 49 = .ok (.bipush 40, 2) := by decide +kernel
theorem dX10_lots_51 : decode cX10_lots 51 = .ok (.if_icmp .le 6, 3) := by decide +kernel
theorem dX10_lots_54 : decode cX10_lots 54 = .ok (.bipush (-2), 2) := by decide +kernel
theorem dX10_lots_56 : decode cX10_lots 56 = .ok (.ireturn, 1) := by decide +kernel
theorem dX10_lots_57 : decode cX10_lots 57 = .ok (.iload_n 2, 1) := by decide +kernel
theorem dX10_lots_58 : decode cX10_lots 58 = .ok (.i2l, 1) := by decide +kernel
theorem dX10_lots_59 : decode cX10_lots 59 = .ok (.lstore_n 3, 1) := by decide +kernel
theorem dX10_lots_60 : decode cX10_lots 60 = .ok (.iconst 0, 1) := by decide +kernel
theorem dX10_lots_61 : decode cX10_lots 61 = .ok (.istore 5, 2) := by decide +kernel
theorem dX10_lots_63 : decode cX10_lots 63 = .ok (.iload 5, 2) := by decide +kernel
theorem dX10_lots_65 : decode cX10_lots 65 = .ok (.iload_n 1, 1) := by decide +kernel
theorem dX10_lots_66 : decode cX10_lots 66 = .ok (.if_icmp .ge 24, 3) := by decide +kernel
theorem dX10_lots_69 : decode cX10_lots 69 = .ok (.lload_n 3, 1) := by decide +kernel
theorem dX10_lots_70 : decode cX10_lots 70 = .ok (.ldc2_w 254, 3) := by decide +kernel
theorem dX10_lots_73 : decode cX10_lots 73 = .ok (.lmul, 1) := by decide +kernel
theorem dX10_lots_74 : decode cX10_lots 74 = .ok (.ldc2_w 252, 3) := by decide +kernel
theorem dX10_lots_77 : decode cX10_lots 77 = .ok (.lrem, 1) := by decide +kernel
theorem dX10_lots_78 : decode cX10_lots 78 = .ok (.lstore_n 3, 1) := by decide +kernel
theorem dX10_lots_79 : decode cX10_lots 79 = .ok (.aload_n 0, 1) := by decide +kernel
theorem dX10_lots_80 : decode cX10_lots 80 = .ok (.lload_n 3, 1) := by decide +kernel
theorem dX10_lots_81 : decode cX10_lots 81 = .ok (.invokevirtual 256, 3) := by decide +kernel
theorem dX10_lots_84 : decode cX10_lots 84 = .ok (.iinc 5 1, 3) := by decide +kernel
theorem dX10_lots_87 : decode cX10_lots 87 = .ok (.goto (-24), 3) := by decide +kernel
theorem dX10_lots_90 : decode cX10_lots 90 = .ok (.aload_n 0, 1) := by decide +kernel
theorem dX10_lots_91 : decode cX10_lots 91 = .ok (.getfield 28, 3) := by decide +kernel
theorem dX10_lots_94 : decode cX10_lots 94 = .ok (.invokevirtual 175, 3) := by decide +kernel
theorem dX10_lots_97 : decode cX10_lots 97 = .ok (.ireturn, 1) := by decide +kernel
theorem dX10_asked_0 : decode cX10_asked 0 = .ok (.aload_n 0, 1) := by decide +kernel
theorem dX10_asked_1 : decode cX10_asked 1 = .ok (.getfield 51, 3) := by decide +kernel
theorem dX10_asked_4 : decode cX10_asked 4 = .ok (.ireturn, 1) := by decide +kernel
theorem dX10_upper_0 : decode cX10_upper 0 = .ok (.aload_n 0, 1) := by decide +kernel
theorem dX10_upper_1 : decode cX10_upper 1 = .ok (.getfield 54, 3) := by decide +kernel
theorem dX10_upper_4 : decode cX10_upper 4 = .ok (.lreturn, 1) := by decide +kernel
theorem dX10_lower_0 : decode cX10_lower 0 = .ok (.aload_n 0, 1) := by decide +kernel
theorem dX10_lower_1 : decode cX10_lower 1 = .ok (.getfield 58, 3) := by decide +kernel
theorem dX10_lower_4 : decode cX10_lower 4 = .ok (.lreturn, 1) := by decide +kernel
theorem dX10_count_0 : decode cX10_count 0 = .ok (.iload_n 1, 1) := by decide +kernel
theorem dX10_count_1 : decode cX10_count 1 = .ok (.tableswitch 152 0 11 #[63, 71, 79, 87, 95, 103, 111, 119, 127, 135, 140, 146], 63) := by decide +kernel
theorem dX10_count_64 : decode cX10_count 64 = .ok (.aload_n 0, 1) := by decide +kernel
theorem dX10_count_65 : decode cX10_count 65 = .ok (.getfield 28, 3) := by decide +kernel
theorem dX10_count_68 : decode cX10_count 68 = .ok (.getfield 118, 3) := by decide +kernel
theorem dX10_count_71 : decode cX10_count 71 = .ok (.ireturn, 1) := by decide +kernel
theorem dX10_count_72 : decode cX10_count 72 = .ok (.aload_n 0, 1) := by decide +kernel
theorem dX10_count_73 : decode cX10_count 73 = .ok (.getfield 28, 3) := by decide +kernel
theorem dX10_count_76 : decode cX10_count 76 = .ok (.getfield 151, 3) := by decide +kernel
theorem dX10_count_79 : decode cX10_count 79 = .ok (.ireturn, 1) := by decide +kernel
theorem dX10_count_80 : decode cX10_count 80 = .ok (.aload_n 0, 1) := by decide +kernel
theorem dX10_count_81 : decode cX10_count 81 = .ok (.getfield 28, 3) := by decide +kernel
theorem dX10_count_84 : decode cX10_count 84 = .ok (.getfield 168, 3) := by decide +kernel
theorem dX10_count_87 : decode cX10_count 87 = .ok (.ireturn, 1) := by decide +kernel
theorem dX10_count_88 : decode cX10_count 88 = .ok (.aload_n 0, 1) := by decide +kernel
theorem dX10_count_89 : decode cX10_count 89 = .ok (.getfield 28, 3) := by decide +kernel
theorem dX10_count_92 : decode cX10_count 92 = .ok (.invokevirtual 175, 3) := by decide +kernel
theorem dX10_count_95 : decode cX10_count 95 = .ok (.ireturn, 1) := by decide +kernel
theorem dX10_count_96 : decode cX10_count 96 = .ok (.aload_n 0, 1) := by decide +kernel
theorem dX10_count_97 : decode cX10_count 97 = .ok (.getfield 28, 3) := by decide +kernel
theorem dX10_count_100 : decode cX10_count 100 = .ok (.invokevirtual 260, 3) := by decide +kernel
theorem dX10_count_103 : decode cX10_count 103 = .ok (.ireturn, 1) := by decide +kernel
theorem dX10_count_104 : decode cX10_count 104 = .ok (.aload_n 0, 1) := by decide +kernel
theorem dX10_count_105 : decode cX10_count 105 = .ok (.getfield 28, 3) := by decide +kernel
theorem dX10_count_108 : decode cX10_count 108 = .ok (.invokevirtual 263, 3) := by decide +kernel
theorem dX10_count_111 : decode cX10_count 111 = .ok (.ireturn, 1) := by decide +kernel
theorem dX10_count_112 : decode cX10_count 112 = .ok (.aload_n 0, 1) := by decide +kernel
theorem dX10_count_113 : decode cX10_count 113 = .ok (.getfield 28, 3) := by decide +kernel
theorem dX10_count_116 : decode cX10_count 116 = .ok (.invokevirtual 266, 3) := by decide +kernel
theorem dX10_count_119 : decode cX10_count 119 = .ok (.ireturn, 1) := by decide +kernel
theorem dX10_count_120 : decode cX10_count 120 = .ok (.aload_n 0, 1) := by decide +kernel
theorem dX10_count_121 : decode cX10_count 121 = .ok (.getfield 11, 3) := by decide +kernel
theorem dX10_count_124 : decode cX10_count 124 = .ok (.invokestatic 269, 3) := by decide +kernel
theorem dX10_count_127 : decode cX10_count 127 = .ok (.ireturn, 1) := by decide +kernel
theorem dX10_count_128 : decode cX10_count 128 = .ok (.aload_n 0, 1) := by decide +kernel
theorem dX10_count_129 : decode cX10_count 129 = .ok (.getfield 15, 3) := by decide +kernel
theorem dX10_count_132 : decode cX10_count 132 = .ok (.invokestatic 269, 3) := by decide +kernel
theorem dX10_count_135 : decode cX10_count 135 = .ok (.ireturn, 1) := by decide +kernel
theorem dX10_count_136 : decode cX10_count 136 = .ok (.aload_n 0, 1) := by decide +kernel
theorem dX10_count_137 : decode cX10_count 137 = .ok (.invokevirtual 273, 3) := by decide +kernel
theorem dX10_count_140 : decode cX10_count 140 = .ok (.ireturn, 1) := by decide +kernel
theorem dX10_count_141 : decode cX10_count 141 = .ok (.aload_n 0, 1) := by decide +kernel
theorem dX10_count_142 : decode cX10_count 142 = .ok (.iconst 1, 1) := by decide +kernel
theorem dX10_count_143 : decode cX10_count 143 = .ok (.invokevirtual 276, 3) := by decide +kernel
theorem dX10_count_146 : decode cX10_count 146 = .ok (.ireturn, 1) := by decide +kernel
theorem dX10_count_147 : decode cX10_count 147 = .ok (.aload_n 0, 1) := by decide +kernel
theorem dX10_count_148 : decode cX10_count 148 = .ok (.iconst 2, 1) := by decide +kernel
theorem dX10_count_149 : decode cX10_count 149 = .ok (.invokevirtual 276, 3) := by decide +kernel
theorem dX10_count_152 : decode cX10_count 152 = .ok (.ireturn, 1) := by decide +kernel
theorem dX10_count_153 : decode cX10_count 153 = .ok (.iconst (-1), 1) := by decide +kernel
theorem dX10_count_154 : decode cX10_count 154 = .ok (.ireturn, 1) := by decide +kernel
theorem dX10_finding_0 : decode cX10_finding 0 = .ok (.aload_n 0, 1) := by decide +kernel
theorem dX10_finding_1 : decode cX10_finding 1 = .ok (.getfield 47, 3) := by decide +kernel
theorem dX10_finding_4 : decode cX10_finding 4 = .ok (.ireturn, 1) := by decide +kernel
theorem dX10_findings_0 : decode cX10_findings 0 = .ok (.iload_n 1, 1) := by decide +kernel
theorem dX10_findings_1 : decode cX10_findings 1 = .ok (.iconst 1, 1) := by decide +kernel
theorem dX10_findings_2 : decode cX10_findings 2 = .ok (.if_icmp .lt 8, 3) := by decide +kernel
theorem dX10_findings_5 : decode cX10_findings 5 = .ok (.iload_n 1, 1) := by decide +kernel
theorem dX10_findings_6 : decode cX10_findings 6 = .ok (.iconst 5, 1) := by decide +kernel
theorem dX10_findings_7 : decode cX10_findings 7 = .ok (.if_icmp .le 5, 3) := by decide +kernel
theorem dX10_findings_10 : decode cX10_findings 10 = .ok (.iconst (-1), 1) := by decide +kernel
theorem dX10_findings_11 : decode cX10_findings 11 = .ok (.ireturn, 1) := by decide +kernel
theorem dX10_findings_12 : decode cX10_findings 12 = .ok (.aload_n 0, 1) := by decide +kernel
theorem dX10_findings_13 : decode cX10_findings 13 = .ok (.getfield 43, 3) := by decide +kernel
theorem dX10_findings_16 : decode cX10_findings 16 = .ok (.iload_n 1, 1) := by decide +kernel
theorem dX10_findings_17 : decode cX10_findings 17 = .ok (.iaload, 1) := by decide +kernel
theorem dX10_findings_18 : decode cX10_findings 18 = .ok (.ireturn, 1) := by decide +kernel
theorem dX10_digest_0 : decode cX10_digest 0 = .ok (.ldc2_w 279, 3) := by decide +kernel
theorem dX10_digest_3 : decode cX10_digest 3 = .ok (.lstore_n 1, 1) := by decide +kernel
theorem dX10_digest_4 : decode cX10_digest 4 = .ok (.iconst 0, 1) := by decide +kernel
theorem dX10_digest_5 : decode cX10_digest 5 = .ok (.istore_n 3, 1) := by decide +kernel
theorem dX10_digest_6 : decode cX10_digest 6 = .ok (.iload_n 3, 1) := by decide +kernel
theorem dX10_digest_7 : decode cX10_digest 7 = .ok (.bipush 12, 2) := by decide +kernel
theorem dX10_digest_9 : decode cX10_digest 9 = .ok (.if_icmp .ge 22, 3) := by decide +kernel
theorem dX10_digest_12 : decode cX10_digest 12 = .ok (.ldc2_w 281, 3) := by decide +kernel
theorem dX10_digest_15 : decode cX10_digest 15 = .ok (.lload_n 1, 1) := by decide +kernel
theorem dX10_digest_16 : decode cX10_digest 16 = .ok (.lmul, 1) := by decide +kernel
theorem dX10_digest_17 : decode cX10_digest 17 = .ok (.aload_n 0, 1) := by decide +kernel
theorem dX10_digest_18 : decode cX10_digest 18 = .ok (.iload_n 3, 1) := by decide +kernel
theorem dX10_digest_19 : decode cX10_digest 19 = .ok (.invokevirtual 283, 3) := by decide +kernel
theorem dX10_digest_22 : decode cX10_digest 22 = .ok (.i2l, 1) := by decide +kernel
theorem dX10_digest_23 : decode cX10_digest 23 = .ok (.ladd, 1) := by decide +kernel
theorem dX10_digest_24 : decode cX10_digest 24 = .ok (.lstore_n 1, 1) := by decide +kernel
theorem dX10_digest_25 : decode cX10_digest 25 = .ok (.iinc 3 1, 3) := by decide +kernel
theorem dX10_digest_28 : decode cX10_digest 28 = .ok (.goto (-22), 3) := by decide +kernel
theorem dX10_digest_31 : decode cX10_digest 31 = .ok (.iconst 0, 1) := by decide +kernel
theorem dX10_digest_32 : decode cX10_digest 32 = .ok (.istore_n 3, 1) := by decide +kernel
theorem dX10_digest_33 : decode cX10_digest 33 = .ok (.iload_n 3, 1) := by decide +kernel
theorem dX10_digest_34 : decode cX10_digest 34 = .ok (.aload_n 0, 1) := by decide +kernel
theorem dX10_digest_35 : decode cX10_digest 35 = .ok (.getfield 28, 3) := by decide +kernel
theorem dX10_digest_38 : decode cX10_digest 38 = .ok (.getfield 118, 3) := by decide +kernel
theorem dX10_digest_41 : decode cX10_digest 41 = .ok (.if_icmp .ge 43, 3) := by decide +kernel
theorem dX10_digest_44 : decode cX10_digest 44 = .ok (.iconst 0, 1) := by decide +kernel
theorem dX10_digest_45 : decode cX10_digest 45 = .ok (.istore 4, 2) := by decide +kernel
theorem dX10_digest_47 : decode cX10_digest 47 = .ok (.iload 4, 2) := by decide +kernel
theorem dX10_digest_49 : decode cX10_digest 49 = .ok (.bipush 7, 2) := by decide +kernel
theorem dX10_digest_51 : decode cX10_digest 51 = .ok (.if_icmp .ge 27, 3) := by decide +kernel
theorem dX10_digest_54 : decode cX10_digest 54 = .ok (.ldc2_w 281, 3) := by decide +kernel
theorem dX10_digest_57 : decode cX10_digest 57 = .ok (.lload_n 1, 1) := by decide +kernel
theorem dX10_digest_58 : decode cX10_digest 58 = .ok (.lmul, 1) := by decide +kernel
theorem dX10_digest_59 : decode cX10_digest 59 = .ok (.aload_n 0, 1) := by decide +kernel
theorem dX10_digest_60 : decode cX10_digest 60 = .ok (.getfield 28, 3) := by decide +kernel
theorem dX10_digest_63 : decode cX10_digest 63 = .ok (.iload_n 3, 1) := by decide +kernel
theorem dX10_digest_64 : decode cX10_digest 64 = .ok (.iload 4, 2) := by decide +kernel
theorem dX10_digest_66 : decode cX10_digest 66 = .ok (.invokevirtual 124, 3) := by decide +kernel
theorem dX10_digest_69 : decode cX10_digest 69 = .ok (.i2l, 1) := by decide +kernel
theorem dX10_digest_70 : decode cX10_digest 70 = .ok (.ladd, 1) := by decide +kernel
theorem dX10_digest_71 : decode cX10_digest 71 = .ok (.lstore_n 1, 1) := by decide +kernel
theorem dX10_digest_72 : decode cX10_digest 72 = .ok (.iinc 4 1, 3) := by decide +kernel
theorem dX10_digest_75 : decode cX10_digest 75 = .ok (.goto (-28), 3) := by decide +kernel
theorem dX10_digest_78 : decode cX10_digest 78 = .ok (.iinc 3 1, 3) := by decide +kernel
theorem dX10_digest_81 : decode cX10_digest 81 = .ok (.goto (-48), 3) := by decide +kernel
theorem dX10_digest_84 : decode cX10_digest 84 = .ok (.iconst 0, 1) := by decide +kernel
theorem dX10_digest_85 : decode cX10_digest 85 = .ok (.istore_n 3, 1) := by decide +kernel
theorem dX10_digest_86 : decode cX10_digest 86 = .ok (.iload_n 3, 1) := by decide +kernel
theorem dX10_digest_87 : decode cX10_digest 87 = .ok (.iconst 5, 1) := by decide +kernel
theorem dX10_digest_88 : decode cX10_digest 88 = .ok (.if_icmp .ge 26, 3) := by decide +kernel
theorem dX10_digest_91 : decode cX10_digest 91 = .ok (.ldc2_w 281, 3) := by decide +kernel
theorem dX10_digest_94 : decode cX10_digest 94 = .ok (.lload_n 1, 1) := by decide +kernel
theorem dX10_digest_95 : decode cX10_digest 95 = .ok (.lmul, 1) := by decide +kernel
theorem dX10_digest_96 : decode cX10_digest 96 = .ok (.aload_n 0, 1) := by decide +kernel
theorem dX10_digest_97 : decode cX10_digest 97 = .ok (.getfield 28, 3) := by decide +kernel
theorem dX10_digest_100 : decode cX10_digest 100 = .ok (.getfield 137, 3) := by decide +kernel
theorem dX10_digest_103 : decode cX10_digest 103 = .ok (.iload_n 3, 1) := by decide +kernel
theorem dX10_digest_104 : decode cX10_digest 104 = .ok (.iaload, 1) := by decide +kernel
theorem dX10_digest_105 : decode cX10_digest 105 = .ok (.i2l, 1) := by decide +kernel
theorem dX10_digest_106 : decode cX10_digest 106 = .ok (.ladd, 1) := by decide +kernel
theorem dX10_digest_107 : decode cX10_digest 107 = .ok (.lstore_n 1, 1) := by decide +kernel
theorem dX10_digest_108 : decode cX10_digest 108 = .ok (.iinc 3 1, 3) := by decide +kernel
theorem dX10_digest_111 : decode cX10_digest 111 = .ok (.goto (-25), 3) := by decide +kernel
theorem dX10_digest_114 : decode cX10_digest 114 = .ok (.iconst 0, 1) := by decide +kernel
theorem dX10_digest_115 : decode cX10_digest 115 = .ok (.istore_n 3, 1) := by decide +kernel
theorem dX10_digest_116 : decode cX10_digest 116 = .ok (.iload_n 3, 1) := by decide +kernel
theorem dX10_digest_117 : decode cX10_digest 117 = .ok (.iconst 3, 1) := by decide +kernel
theorem dX10_digest_118 : decode cX10_digest 118 = .ok (.if_icmp .ge 42, 3) := by decide +kernel
theorem dX10_digest_121 : decode cX10_digest 121 = .ok (.ldc2_w 281, 3) := by decide +kernel
theorem dX10_digest_124 : decode cX10_digest 124 = .ok (.lload_n 1, 1) := by decide +kernel
theorem dX10_digest_125 : decode cX10_digest 125 = .ok (.lmul, 1) := by decide +kernel
theorem dX10_digest_126 : decode cX10_digest 126 = .ok (.aload_n 0, 1) := by decide +kernel
theorem dX10_digest_127 : decode cX10_digest 127 = .ok (.getfield 32, 3) := by decide +kernel
theorem dX10_digest_130 : decode cX10_digest 130 = .ok (.iload_n 3, 1) := by decide +kernel
theorem dX10_digest_131 : decode cX10_digest 131 = .ok (.aaload, 1) := by decide +kernel
theorem dX10_digest_132 : decode cX10_digest 132 = .ok (.invokevirtual 131, 3) := by decide +kernel
theorem dX10_digest_135 : decode cX10_digest 135 = .ok (.ifCond .eq 15, 3) := by decide +kernel
theorem dX10_digest_138 : decode cX10_digest 138 = .ok (.aload_n 0, 1) := by decide +kernel
theorem dX10_digest_139 : decode cX10_digest 139 = .ok (.getfield 32, 3) := by decide +kernel
theorem dX10_digest_142 : decode cX10_digest 142 = .ok (.iload_n 3, 1) := by decide +kernel
theorem dX10_digest_143 : decode cX10_digest 143 = .ok (.aaload, 1) := by decide +kernel
theorem dX10_digest_144 : decode cX10_digest 144 = .ok (.getfield 168, 3) := by decide +kernel
theorem dX10_digest_147 : decode cX10_digest 147 = .ok (.goto 4, 3) := by decide +kernel
theorem dX10_digest_150 : decode cX10_digest 150 = .ok (.iconst (-1), 1) := by decide +kernel
theorem dX10_digest_151 : decode cX10_digest 151 = .ok (.i2l, 1) := by decide +kernel
theorem dX10_digest_152 : decode cX10_digest 152 = .ok (.ladd, 1) := by decide +kernel
theorem dX10_digest_153 : decode cX10_digest 153 = .ok (.lstore_n 1, 1) := by decide +kernel
theorem dX10_digest_154 : decode cX10_digest 154 = .ok (.iinc 3 1, 3) := by decide +kernel
theorem dX10_digest_157 : decode cX10_digest 157 = .ok (.goto (-41), 3) := by decide +kernel
theorem dX10_digest_160 : decode cX10_digest 160 = .ok (.iconst 0, 1) := by decide +kernel
theorem dX10_digest_161 : decode cX10_digest 161 = .ok (.istore_n 3, 1) := by decide +kernel
theorem dX10_digest_162 : decode cX10_digest 162 = .ok (.iload_n 3, 1) := by decide +kernel
theorem dX10_digest_163 : decode cX10_digest 163 = .ok (.bipush 6, 2) := by decide +kernel
theorem dX10_digest_165 : decode cX10_digest 165 = .ok (.if_icmp .ge 20, 3) := by decide +kernel
theorem dX10_digest_168 : decode cX10_digest 168 = .ok (.aload_n 0, 1) := by decide +kernel
theorem dX10_digest_169 : decode cX10_digest 169 = .ok (.getfield 11, 3) := by decide +kernel
theorem dX10_digest_172 : decode cX10_digest 172 = .ok (.iload_n 3, 1) := by decide +kernel
theorem dX10_digest_173 : decode cX10_digest 173 = .ok (.aaload, 1) := by decide +kernel
theorem dX10_digest_174 : decode cX10_digest 174 = .ok (.lload_n 1, 1) := by decide +kernel
theorem dX10_digest_175 : decode cX10_digest 175 = .ok (.invokevirtual 286, 3) := by decide +kernel
theorem dX10_digest_178 : decode cX10_digest 178 = .ok (.lstore_n 1, 1) := by decide +kernel
theorem dX10_digest_179 : decode cX10_digest 179 = .ok (.iinc 3 1, 3) := by decide +kernel
theorem dX10_digest_182 : decode cX10_digest 182 = .ok (.goto (-20), 3) := by decide +kernel
theorem dX10_digest_185 : decode cX10_digest 185 = .ok (.iconst 0, 1) := by decide +kernel
theorem dX10_digest_186 : decode cX10_digest 186 = .ok (.istore_n 3, 1) := by decide +kernel
theorem dX10_digest_187 : decode cX10_digest 187 = .ok (.iload_n 3, 1) := by decide +kernel
theorem dX10_digest_188 : decode cX10_digest 188 = .ok (.iconst 4, 1) := by decide +kernel
theorem dX10_digest_189 : decode cX10_digest 189 = .ok (.if_icmp .ge 20, 3) := by decide +kernel
theorem dX10_digest_192 : decode cX10_digest 192 = .ok (.aload_n 0, 1) := by decide +kernel
theorem dX10_digest_193 : decode cX10_digest 193 = .ok (.getfield 15, 3) := by decide +kernel
theorem dX10_digest_196 : decode cX10_digest 196 = .ok (.iload_n 3, 1) := by decide +kernel
theorem dX10_digest_197 : decode cX10_digest 197 = .ok (.aaload, 1) := by decide +kernel
theorem dX10_digest_198 : decode cX10_digest 198 = .ok (.lload_n 1, 1) := by decide +kernel
theorem dX10_digest_199 : decode cX10_digest 199 = .ok (.invokevirtual 286, 3) := by decide +kernel
theorem dX10_digest_202 : decode cX10_digest 202 = .ok (.lstore_n 1, 1) := by decide +kernel
theorem dX10_digest_203 : decode cX10_digest 203 = .ok (.iinc 3 1, 3) := by decide +kernel
theorem dX10_digest_206 : decode cX10_digest 206 = .ok (.goto (-19), 3) := by decide +kernel
theorem dX10_digest_209 : decode cX10_digest 209 = .ok (.lload_n 1, 1) := by decide +kernel
theorem dX10_digest_210 : decode cX10_digest 210 = .ok (.lreturn, 1) := by decide +kernel
theorem dX10_isRow_0 : decode cX10_isRow 0 = .ok (.iload_n 1, 1) := by decide +kernel
theorem dX10_isRow_1 : decode cX10_isRow 1 = .ok (.ifCond .lt 13, 3) := by decide +kernel
theorem dX10_isRow_4 : decode cX10_isRow 4 = .ok (.iload_n 1, 1) := by decide +kernel
theorem dX10_isRow_5 : decode cX10_isRow 5 = .ok (.bipush 6, 2) := by decide +kernel
theorem dX10_isRow_7 : decode cX10_isRow 7 = .ok (.if_icmp .ge 7, 3) := by decide +kernel
theorem dX10_isRow_10 : decode cX10_isRow 10 = .ok (.iconst 1, 1) := by decide +kernel
theorem dX10_isRow_11 : decode cX10_isRow 11 = .ok (.goto 4, 3) := by decide +kernel
theorem dX10_isRow_14 : decode cX10_isRow 14 = .ok (.iconst 0, 1) := by decide +kernel
theorem dX10_isRow_15 : decode cX10_isRow 15 = .ok (.ireturn, 1) := by decide +kernel
theorem dX10_isText_0 : decode cX10_isText 0 = .ok (.iload_n 1, 1) := by decide +kernel
theorem dX10_isText_1 : decode cX10_isText 1 = .ok (.ifCond .lt 12, 3) := by decide +kernel
theorem dX10_isText_4 : decode cX10_isText 4 = .ok (.iload_n 1, 1) := by decide +kernel
theorem dX10_isText_5 : decode cX10_isText 5 = .ok (.iconst 4, 1) := by decide +kernel
theorem dX10_isText_6 : decode cX10_isText 6 = .ok (.if_icmp .ge 7, 3) := by decide +kernel
theorem dX10_isText_9 : decode cX10_isText 9 = .ok (.iconst 1, 1) := by decide +kernel
theorem dX10_isText_10 : decode cX10_isText 10 = .ok (.goto 4, 3) := by decide +kernel
theorem dX10_isText_13 : decode cX10_isText 13 = .ok (.iconst 0, 1) := by decide +kernel
theorem dX10_isText_14 : decode cX10_isText 14 = .ok (.ireturn, 1) := by decide +kernel
theorem dX10_isStreet_0 : decode cX10_isStreet 0 = .ok (.iload_n 1, 1) := by decide +kernel
theorem dX10_isStreet_1 : decode cX10_isStreet 1 = .ok (.ifCond .lt 12, 3) := by decide +kernel
theorem dX10_isStreet_4 : decode cX10_isStreet 4 = .ok (.iload_n 1, 1) := by decide +kernel
theorem dX10_isStreet_5 : decode cX10_isStreet 5 = .ok (.iconst 5, 1) := by decide +kernel
theorem dX10_isStreet_6 : decode cX10_isStreet 6 = .ok (.if_icmp .ge 7, 3) := by decide +kernel
theorem dX10_isStreet_9 : decode cX10_isStreet 9 = .ok (.iconst 1, 1) := by decide +kernel
theorem dX10_isStreet_10 : decode cX10_isStreet 10 = .ok (.goto 4, 3) := by decide +kernel
theorem dX10_isStreet_13 : decode cX10_isStreet 13 = .ok (.iconst 0, 1) := by decide +kernel
theorem dX10_isStreet_14 : decode cX10_isStreet 14 = .ok (.ireturn, 1) := by decide +kernel
theorem dX10_isPerson_0 : decode cX10_isPerson 0 = .ok (.iload_n 1, 1) := by decide +kernel
theorem dX10_isPerson_1 : decode cX10_isPerson 1 = .ok (.ifCond .lt 18, 3) := by decide +kernel
theorem dX10_isPerson_4 : decode cX10_isPerson 4 = .ok (.iload_n 1, 1) := by decide +kernel
theorem dX10_isPerson_5 : decode cX10_isPerson 5 = .ok (.aload_n 0, 1) := by decide +kernel
theorem dX10_isPerson_6 : decode cX10_isPerson 6 = .ok (.getfield 28, 3) := by decide +kernel
theorem dX10_isPerson_9 : decode cX10_isPerson 9 = .ok (.getfield 118, 3) := by decide +kernel
theorem dX10_isPerson_12 : decode cX10_isPerson 12 = .ok (.if_icmp .ge 7, 3) := by decide +kernel
theorem dX10_isPerson_15 : decode cX10_isPerson 15 = .ok (.iconst 1, 1) := by decide +kernel
theorem dX10_isPerson_16 : decode cX10_isPerson 16 = .ok (.goto 4, 3) := by decide +kernel
theorem dX10_isPerson_19 : decode cX10_isPerson 19 = .ok (.iconst 0, 1) := by decide +kernel
theorem dX10_isPerson_20 : decode cX10_isPerson 20 = .ok (.ireturn, 1) := by decide +kernel
theorem dX10_isKeepingPlace_0 : decode cX10_isKeepingPlace 0 = .ok (.iload_n 1, 1) := by decide +kernel
theorem dX10_isKeepingPlace_1 : decode cX10_isKeepingPlace 1 = .ok (.ifCond .lt 12, 3) := by decide +kernel
theorem dX10_isKeepingPlace_4 : decode cX10_isKeepingPlace 4 = .ok (.iload_n 1, 1) := by decide +kernel
theorem dX10_isKeepingPlace_5 : decode cX10_isKeepingPlace 5 = .ok (.iconst 3, 1) := by decide +kernel
theorem dX10_isKeepingPlace_6 : decode cX10_isKeepingPlace 6 = .ok (.if_icmp .ge 7, 3) := by decide +kernel
theorem dX10_isKeepingPlace_9 : decode cX10_isKeepingPlace 9 = .ok (.iconst 1, 1) := by decide +kernel
theorem dX10_isKeepingPlace_10 : decode cX10_isKeepingPlace 10 = .ok (.goto 4, 3) := by decide +kernel
theorem dX10_isKeepingPlace_13 : decode cX10_isKeepingPlace 13 = .ok (.iconst 0, 1) := by decide +kernel
theorem dX10_isKeepingPlace_14 : decode cX10_isKeepingPlace 14 = .ok (.ireturn, 1) := by decide +kernel
theorem dX10_areChances_0 : decode cX10_areChances 0 = .ok (.iload_n 1, 1) := by decide +kernel
theorem dX10_areChances_1 : decode cX10_areChances 1 = .ok (.ifCond .lt 23, 3) := by decide +kernel
theorem dX10_areChances_4 : decode cX10_areChances 4 = .ok (.iload_n 1, 1) := by decide +kernel
theorem dX10_areChances_5 : decode cX10_areChances 5 = .ok (.bipush 20, 2) := by decide +kernel
theorem dX10_areChances_7 : decode cX10_areChances 7 = .ok (.if_icmp .gt 17, 3) := by decide +kernel
theorem dX10_areChances_10 : decode cX10_areChances 10 = .ok (.iload_n 2, 1) := by decide +kernel
theorem dX10_areChances_11 : decode cX10_areChances 11 = .ok (.ifCond .lt 13, 3) := by decide +kernel
theorem dX10_areChances_14 : decode cX10_areChances 14 = .ok (.iload_n 2, 1) := by decide +kernel
theorem dX10_areChances_15 : decode cX10_areChances 15 = .ok (.bipush 12, 2) := by decide +kernel
theorem dX10_areChances_17 : decode cX10_areChances 17 = .ok (.if_icmp .gt 7, 3) := by decide +kernel
theorem dX10_areChances_20 : decode cX10_areChances 20 = .ok (.iconst 1, 1) := by decide +kernel
theorem dX10_areChances_21 : decode cX10_areChances 21 = .ok (.goto 4, 3) := by decide +kernel
theorem dX10_areChances_24 : decode cX10_areChances 24 = .ok (.iconst 0, 1) := by decide +kernel
theorem dX10_areChances_25 : decode cX10_areChances 25 = .ok (.ireturn, 1) := by decide +kernel
theorem dX10_isOfKind_0 : decode cX10_isOfKind 0 = .ok (.iload_n 2, 1) := by decide +kernel
theorem dX10_isOfKind_1 : decode cX10_isOfKind 1 = .ok (.tableswitch 60 1 5 #[35, 40, 45, 50, 55], 35) := by decide +kernel
theorem dX10_isOfKind_36 : decode cX10_isOfKind 36 = .ok (.aload_n 1, 1) := by decide +kernel
theorem dX10_isOfKind_37 : decode cX10_isOfKind 37 = .ok (.instanceof 290, 3) := by decide +kernel
theorem dX10_isOfKind_40 : decode cX10_isOfKind 40 = .ok (.ireturn, 1) := by decide +kernel
theorem dX10_isOfKind_41 : decode cX10_isOfKind 41 = .ok (.aload_n 1, 1) := by decide +kernel
theorem dX10_isOfKind_42 : decode cX10_isOfKind 42 = .ok (.instanceof 292, 3) := by decide +kernel
theorem dX10_isOfKind_45 : decode cX10_isOfKind 45 = .ok (.ireturn, 1) := by decide +kernel
theorem dX10_isOfKind_46 : decode cX10_isOfKind 46 = .ok (.aload_n 1, 1) := by decide +kernel
theorem dX10_isOfKind_47 : decode cX10_isOfKind 47 = .ok (.instanceof 294, 3) := by decide +kernel
theorem dX10_isOfKind_50 : decode cX10_isOfKind 50 = .ok (.ireturn, 1) := by decide +kernel
theorem dX10_isOfKind_51 : decode cX10_isOfKind 51 = .ok (.aload_n 1, 1) := by decide +kernel
theorem dX10_isOfKind_52 : decode cX10_isOfKind 52 = .ok (.instanceof 296, 3) := by decide +kernel
theorem dX10_isOfKind_55 : decode cX10_isOfKind 55 = .ok (.ireturn, 1) := by decide +kernel
theorem dX10_isOfKind_56 : decode cX10_isOfKind 56 = .ok (.aload_n 1, 1) := by decide +kernel
theorem dX10_isOfKind_57 : decode cX10_isOfKind 57 = .ok (.instanceof 298, 3) := by decide +kernel
theorem dX10_isOfKind_60 : decode cX10_isOfKind 60 = .ok (.ireturn, 1) := by decide +kernel
theorem dX10_isOfKind_61 : decode cX10_isOfKind 61 = .ok (.iconst 1, 1) := by decide +kernel
theorem dX10_isOfKind_62 : decode cX10_isOfKind 62 = .ok (.ireturn, 1) := by decide +kernel
theorem dX10_foundOut_0 : decode cX10_foundOut 0 = .ok (.aload_n 0, 1) := by decide +kernel
theorem dX10_foundOut_1 : decode cX10_foundOut 1 = .ok (.iload_n 1, 1) := by decide +kernel
theorem dX10_foundOut_2 : decode cX10_foundOut 2 = .ok (.putfield 47, 3) := by decide +kernel
theorem dX10_foundOut_5 : decode cX10_foundOut 5 = .ok (.iload_n 1, 1) := by decide +kernel
theorem dX10_foundOut_6 : decode cX10_foundOut 6 = .ok (.iconst 1, 1) := by decide +kernel
theorem dX10_foundOut_7 : decode cX10_foundOut 7 = .ok (.if_icmp .lt 18, 3) := by decide +kernel
theorem dX10_foundOut_10 : decode cX10_foundOut 10 = .ok (.iload_n 1, 1) := by decide +kernel
theorem dX10_foundOut_11 : decode cX10_foundOut 11 = .ok (.iconst 5, 1) := by decide +kernel
theorem dX10_foundOut_12 : decode cX10_foundOut 12 = .ok (.if_icmp .gt 13, 3) := by decide +kernel
theorem dX10_foundOut_15 : decode cX10_foundOut 15 = .ok (.aload_n 0, 1) := by decide +kernel
theorem dX10_foundOut_16 : decode cX10_foundOut 16 = .ok (.getfield 43, 3) := by decide +kernel
theorem dX10_foundOut_19 : decode cX10_foundOut 19 = .ok (.iload_n 1, 1) := by decide +kernel
theorem dX10_foundOut_20 : decode cX10_foundOut 20 = .ok (.dup2, 1) := by decide +kernel
theorem dX10_foundOut_21 : decode cX10_foundOut 21 = .ok (.iaload, 1) := by decide +kernel
theorem dX10_foundOut_22 : decode cX10_foundOut 22 = .ok (.iconst 1, 1) := by decide +kernel
theorem dX10_foundOut_23 : decode cX10_foundOut 23 = .ok (.iadd, 1) := by decide +kernel
theorem dX10_foundOut_24 : decode cX10_foundOut 24 = .ok (.iastore, 1) := by decide +kernel
theorem dX10_foundOut_25 : decode cX10_foundOut 25 = .ok (.bipush (-3), 2) := by decide +kernel
theorem dX10_foundOut_27 : decode cX10_foundOut 27 = .ok (.ireturn, 1) := by decide +kernel
theorem dX10_refusalOfPlace_0 : decode cX10_refusalOfPlace 0 = .ok (.aload_n 1, 1) := by decide +kernel
theorem dX10_refusalOfPlace_1 : decode cX10_refusalOfPlace 1 = .ok (.invokevirtual 83, 3) := by decide +kernel
theorem dX10_refusalOfPlace_4 : decode cX10_refusalOfPlace 4 = .ok (.ifCond .ne 9, 3) := by decide +kernel
theorem dX10_refusalOfPlace_7 : decode cX10_refusalOfPlace 7 = .ok (.aload_n 0, 1) := by decide +kernel
theorem dX10_refusalOfPlace_8 : decode cX10_refusalOfPlace 8 = .ok (.iconst 1, 1) := by decide +kernel
theorem dX10_refusalOfPlace_9 : decode cX10_refusalOfPlace 9 = .ok (.invokevirtual 68, 3) := by decide +kernel
theorem dX10_refusalOfPlace_12 : decode cX10_refusalOfPlace 12 = .ok (.ireturn, 1) := by decide +kernel
theorem dX10_refusalOfPlace_13 : decode cX10_refusalOfPlace 13 = .ok (.aload_n 1, 1) := by decide +kernel
theorem dX10_refusalOfPlace_14 : decode cX10_refusalOfPlace 14 = .ok (.iload_n 2, 1) := by decide +kernel
theorem dX10_refusalOfPlace_15 : decode cX10_refusalOfPlace 15 = .ok (.invokevirtual 300, 3) := by decide +kernel
theorem dX10_refusalOfPlace_18 : decode cX10_refusalOfPlace 18 = .ok (.ifCond .eq 7, 3) := by decide +kernel
theorem dX10_refusalOfPlace_21 : decode cX10_refusalOfPlace 21 = .ok (.iconst 0, 1) := by decide +kernel
theorem dX10_refusalOfPlace_22 : decode cX10_refusalOfPlace 22 = .ok (.goto 8, 3) := by decide +kernel
theorem dX10_refusalOfPlace_25 : decode cX10_refusalOfPlace 25 = .ok (.aload_n 0, 1) := by decide +kernel
theorem dX10_refusalOfPlace_26 : decode cX10_refusalOfPlace 26 = .ok (.iconst 2, 1) := by decide +kernel
theorem dX10_refusalOfPlace_27 : decode cX10_refusalOfPlace 27 = .ok (.invokevirtual 68, 3) := by decide +kernel
theorem dX10_refusalOfPlace_30 : decode cX10_refusalOfPlace 30 = .ok (.ireturn, 1) := by decide +kernel
theorem dX10_refusalOfRecord_0 : decode cX10_refusalOfRecord 0 = .ok (.aload_n 0, 1) := by decide +kernel
theorem dX10_refusalOfRecord_1 : decode cX10_refusalOfRecord 1 = .ok (.iload_n 1, 1) := by decide +kernel
theorem dX10_refusalOfRecord_2 : decode cX10_refusalOfRecord 2 = .ok (.invokevirtual 121, 3) := by decide +kernel
theorem dX10_refusalOfRecord_5 : decode cX10_refusalOfRecord 5 = .ok (.ifCond .eq 11, 3) := by decide +kernel
theorem dX10_refusalOfRecord_8 : decode cX10_refusalOfRecord 8 = .ok (.aload_n 0, 1) := by decide +kernel
theorem dX10_refusalOfRecord_9 : decode cX10_refusalOfRecord 9 = .ok (.iload_n 2, 1) := by decide +kernel
theorem dX10_refusalOfRecord_10 : decode cX10_refusalOfRecord 10 = .ok (.invokevirtual 64, 3) := by decide +kernel
theorem dX10_refusalOfRecord_13 : decode cX10_refusalOfRecord 13 = .ok (.ifCond .ne 5, 3) := by decide +kernel
theorem dX10_refusalOfRecord_16 : decode cX10_refusalOfRecord 16 = .ok (.iconst (-1), 1) := by decide +kernel
theorem dX10_refusalOfRecord_17 : decode cX10_refusalOfRecord 17 = .ok (.ireturn, 1) := by decide +kernel
theorem dX10_refusalOfRecord_18 : decode cX10_refusalOfRecord 18 = .ok (.aload_n 0, 1) := by decide +kernel
theorem dX10_refusalOfRecord_19 : decode cX10_refusalOfRecord 19 = .ok (.getfield 11, 3) := by decide +kernel
theorem dX10_refusalOfRecord_22 : decode cX10_refusalOfRecord 22 = .ok (.iload_n 2, 1) := by decide +kernel
theorem dX10_refusalOfRecord_23 : decode cX10_refusalOfRecord 23 = .ok (.aaload, 1) := by decide +kernel
theorem dX10_refusalOfRecord_24 : decode cX10_refusalOfRecord 24 = .ok (.astore_n 3, 1) := by decide +kernel
theorem dX10_refusalOfRecord_25 : decode cX10_refusalOfRecord 25 = .ok (.aload_n 3, 1) := by decide +kernel
theorem dX10_refusalOfRecord_26 : decode cX10_refusalOfRecord 26 = .ok (.invokevirtual 83, 3) := by decide +kernel
theorem dX10_refusalOfRecord_29 : decode cX10_refusalOfRecord 29 = .ok (.ifCond .ne 9, 3) := by decide +kernel
theorem dX10_refusalOfRecord_32 : decode cX10_refusalOfRecord 32 = .ok (.aload_n 0, 1) := by decide +kernel
theorem dX10_refusalOfRecord_33 : decode cX10_refusalOfRecord 33 = .ok (.iconst 1, 1) := by decide +kernel
theorem dX10_refusalOfRecord_34 : decode cX10_refusalOfRecord 34 = .ok (.invokevirtual 68, 3) := by decide +kernel
theorem dX10_refusalOfRecord_37 : decode cX10_refusalOfRecord 37 = .ok (.ireturn, 1) := by decide +kernel
theorem dX10_refusalOfRecord_38 : decode cX10_refusalOfRecord 38 = .ok (.aload_n 3, 1) := by decide +kernel
theorem dX10_refusalOfRecord_39 : decode cX10_refusalOfRecord 39 = .ok (.getfield 100, 3) := by decide +kernel
theorem dX10_refusalOfRecord_42 : decode cX10_refusalOfRecord 42 = .ok (.iconst 1, 1) := by decide +kernel
theorem dX10_refusalOfRecord_43 : decode cX10_refusalOfRecord 43 = .ok (.if_icmp .lt 12, 3) := by decide +kernel
theorem dX10_refusalOfRecord_46 : decode cX10_refusalOfRecord 46 = .ok (.aload_n 3, 1) := by decide +kernel
theorem dX10_refusalOfRecord_47 : decode cX10_refusalOfRecord 47 = .ok (.getfield 100, 3) := by decide +kernel
theorem dX10_refusalOfRecord_50 : decode cX10_refusalOfRecord 50 = .ok (.bipush 20, 2) := by decide +kernel
theorem dX10_refusalOfRecord_52 : decode cX10_refusalOfRecord 52 = .ok (.if_icmp .le 9, 3) := by decide +kernel
theorem dX10_refusalOfRecord_55 : decode cX10_refusalOfRecord 55 = .ok (.aload_n 0, 1) := by decide +kernel
theorem dX10_refusalOfRecord_56 : decode cX10_refusalOfRecord 56 = .ok (.iconst 5, 1) := by decide +kernel
theorem dX10_refusalOfRecord_57 : decode cX10_refusalOfRecord 57 = .ok (.invokevirtual 68, 3) := by decide +kernel
theorem dX10_refusalOfRecord_60 : decode cX10_refusalOfRecord 60 = .ok (.ireturn, 1) := by decide +kernel
theorem dX10_refusalOfRecord_61 : decode cX10_refusalOfRecord 61 = .ok (.iconst 0, 1) := by decide +kernel
theorem dX10_refusalOfRecord_62 : decode cX10_refusalOfRecord 62 = .ok (.istore 4, 2) := by decide +kernel
theorem dX10_refusalOfRecord_64 : decode cX10_refusalOfRecord 64 = .ok (.iload 4, 2) := by decide +kernel
theorem dX10_refusalOfRecord_66 : decode cX10_refusalOfRecord 66 = .ok (.aload_n 3, 1) := by decide +kernel
theorem dX10_refusalOfRecord_67 : decode cX10_refusalOfRecord 67 = .ok (.getfield 100, 3) := by decide +kernel
theorem dX10_refusalOfRecord_70 : decode cX10_refusalOfRecord 70 = .ok (.if_icmp .ge 37, 3) := by decide +kernel
theorem dX10_refusalOfRecord_73 : decode cX10_refusalOfRecord 73 = .ok (.aload_n 3, 1) := by decide +kernel
theorem dX10_refusalOfRecord_74 : decode cX10_refusalOfRecord 74 = .ok (.getfield 80, 3) := by decide +kernel
theorem dX10_refusalOfRecord_77 : decode cX10_refusalOfRecord 77 = .ok (.iload 4, 2) := by decide +kernel
theorem dX10_refusalOfRecord_79 : decode cX10_refusalOfRecord 79 = .ok (.iaload, 1) := by decide +kernel
theorem dX10_refusalOfRecord_80 : decode cX10_refusalOfRecord 80 = .ok (.ifCond .lt 15, 3) := by decide +kernel
theorem dX10_refusalOfRecord_83 : decode cX10_refusalOfRecord 83 = .ok (.aload_n 3, 1) := by decide +kernel
theorem dX10_refusalOfRecord_84 : decode cX10_refusalOfRecord 84 = .ok (.getfield 80, 3) := by decide +kernel
theorem dX10_refusalOfRecord_87 : decode cX10_refusalOfRecord 87 = .ok (.iload 4, 2) := by decide +kernel
theorem dX10_refusalOfRecord_89 : decode cX10_refusalOfRecord 89 = .ok (.iaload, 1) := by decide +kernel
theorem dX10_refusalOfRecord_90 : decode cX10_refusalOfRecord 90 = .ok (.bipush 63, 2) := by decide +kernel
theorem dX10_refusalOfRecord_92 : decode cX10_refusalOfRecord 92 = .ok (.if_icmp .le 9, 3) := by decide +kernel
theorem dX10_refusalOfRecord_95 : decode cX10_refusalOfRecord 95 = .ok (.aload_n 0, 1) := by decide +kernel
theorem dX10_refusalOfRecord_96 : decode cX10_refusalOfRecord 96 = .ok (.iconst 3, 1) := by decide +kernel
theorem dX10_refusalOfRecord_97 : decode cX10_refusalOfRecord 97 = .ok (.invokevirtual 68, 3) := by decide +kernel
theorem dX10_refusalOfRecord_100 : decode cX10_refusalOfRecord 100 = .ok (.ireturn, 1) := by decide +kernel
theorem dX10_refusalOfRecord_101 : decode cX10_refusalOfRecord 101 = .ok (.iinc 4 1, 3) := by decide +kernel
theorem dX10_refusalOfRecord_104 : decode cX10_refusalOfRecord 104 = .ok (.goto (-40), 3) := by decide +kernel
theorem dX10_refusalOfRecord_107 : decode cX10_refusalOfRecord 107 = .ok (.iconst 0, 1) := by decide +kernel
theorem dX10_refusalOfRecord_108 : decode cX10_refusalOfRecord 108 = .ok (.ireturn, 1) := by decide +kernel
theorem dX10_passOn_0 : decode cX10_passOn 0 = .ok (.iload_n 1, 1) := by decide +kernel
theorem dX10_passOn_1 : decode cX10_passOn 1 = .ok (.bipush (-9), 2) := by decide +kernel
theorem dX10_passOn_3 : decode cX10_passOn 3 = .ok (.if_icmp .eq 14, 3) := by decide +kernel
theorem dX10_passOn_6 : decode cX10_passOn 6 = .ok (.aload_n 0, 1) := by decide +kernel
theorem dX10_passOn_7 : decode cX10_passOn 7 = .ok (.aload_n 0, 1) := by decide +kernel
theorem dX10_passOn_8 : decode cX10_passOn 8 = .ok (.getfield 39, 3) := by decide +kernel
theorem dX10_passOn_11 : decode cX10_passOn 11 = .ok (.getfield 303, 3) := by decide +kernel
theorem dX10_passOn_14 : decode cX10_passOn 14 = .ok (.putfield 51, 3) := by decide +kernel
theorem dX10_passOn_17 : decode cX10_passOn 17 = .ok (.iload_n 1, 1) := by decide +kernel
theorem dX10_passOn_18 : decode cX10_passOn 18 = .ok (.ireturn, 1) := by decide +kernel
theorem dX10_tellInLowestTerms_0 : decode cX10_tellInLowestTerms 0 = .ok (.lload_n 1, 1) := by decide +kernel
theorem dX10_tellInLowestTerms_1 : decode cX10_tellInLowestTerms 1 = .ok (.lload_n 3, 1) := by decide +kernel
theorem dX10_tellInLowestTerms_2 : decode cX10_tellInLowestTerms 2 = .ok (.invokestatic 304, 3) := by decide +kernel
theorem dX10_tellInLowestTerms_5 : decode cX10_tellInLowestTerms 5 = .ok (.lstore 5, 2) := by decide +kernel
theorem dX10_tellInLowestTerms_7 : decode cX10_tellInLowestTerms 7 = .ok (.lload 5, 2) := by decide +kernel
theorem dX10_tellInLowestTerms_9 : decode cX10_tellInLowestTerms 9 = .ok (.lconst 0, 1) := by decide +kernel
theorem dX10_tellInLowestTerms_10 : decode cX10_tellInLowestTerms 10 = .ok (.lcmp, 1) := by decide +kernel
theorem dX10_tellInLowestTerms_11 : decode cX10_tellInLowestTerms 11 = .ok (.ifCond .le 19, 3) := by decide +kernel
theorem dX10_tellInLowestTerms_14 : decode cX10_tellInLowestTerms 14 = .ok (.aload_n 0, 1) := by decide +kernel
theorem dX10_tellInLowestTerms_15 : decode cX10_tellInLowestTerms 15 = .ok (.lload_n 1, 1) := by decide +kernel
theorem dX10_tellInLowestTerms_16 : decode cX10_tellInLowestTerms 16 = .ok (.lload 5, 2) := by decide +kernel
theorem dX10_tellInLowestTerms_18 : decode cX10_tellInLowestTerms 18 = .ok (.ldiv, 1) := by decide +kernel
theorem dX10_tellInLowestTerms_19 : decode cX10_tellInLowestTerms 19 = .ok (.putfield 54, 3) := by decide +kernel
theorem dX10_tellInLowestTerms_22 : decode cX10_tellInLowestTerms 22 = .ok (.aload_n 0, 1) := by decide +kernel
theorem dX10_tellInLowestTerms_23 : decode cX10_tellInLowestTerms 23 = .ok (.lload_n 3, 1) := by decide +kernel
theorem dX10_tellInLowestTerms_24 : decode cX10_tellInLowestTerms 24 = .ok (.lload 5, 2) := by decide +kernel
theorem dX10_tellInLowestTerms_26 : decode cX10_tellInLowestTerms 26 = .ok (.ldiv, 1) := by decide +kernel
theorem dX10_tellInLowestTerms_27 : decode cX10_tellInLowestTerms 27 = .ok (.putfield 58, 3) := by decide +kernel
theorem dX10_tellInLowestTerms_30 : decode cX10_tellInLowestTerms 30 = .ok (.return_, 1) := by decide +kernel
theorem dX10_greatestShared_0 : decode cX10_greatestShared 0 = .ok (.lload_n 0, 1) := by decide +kernel
theorem dX10_greatestShared_1 : decode cX10_greatestShared 1 = .ok (.lstore 4, 2) := by decide +kernel
theorem dX10_greatestShared_3 : decode cX10_greatestShared 3 = .ok (.lload_n 2, 1) := by decide +kernel
theorem dX10_greatestShared_4 : decode cX10_greatestShared 4 = .ok (.lstore 6, 2) := by decide +kernel
theorem dX10_greatestShared_6 : decode cX10_greatestShared 6 = .ok (.iconst 0, 1) := by decide +kernel
theorem dX10_greatestShared_7 : decode cX10_greatestShared 7 = .ok (.istore 8, 2) := by decide +kernel
theorem dX10_greatestShared_9 : decode cX10_greatestShared 9 = .ok (.iload 8, 2) := by decide +kernel
theorem dX10_greatestShared_11 : decode cX10_greatestShared 11 = .ok (.bipush 100, 2) := by decide +kernel
theorem dX10_greatestShared_13 : decode cX10_greatestShared 13 = .ok (.if_icmp .ge 31, 3) := by decide +kernel
theorem dX10_greatestShared_16 : decode cX10_greatestShared 16 = .ok (.lload 6, 2) := by decide +kernel
theorem dX10_greatestShared_18 : decode cX10_greatestShared 18 = .ok (.lconst 0, 1) := by decide +kernel
theorem dX10_greatestShared_19 : decode cX10_greatestShared 19 = .ok (.lcmp, 1) := by decide +kernel
theorem dX10_greatestShared_20 : decode cX10_greatestShared 20 = .ok (.ifCond .eq 24, 3) := by decide +kernel
theorem dX10_greatestShared_23 : decode cX10_greatestShared 23 = .ok (.lload 4, 2) := by decide +kernel
theorem dX10_greatestShared_25 : decode cX10_greatestShared 25 = .ok (.lload 6, 2) := by decide +kernel
theorem dX10_greatestShared_27 : decode cX10_greatestShared 27 = .ok (.lrem, 1) := by decide +kernel
theorem dX10_greatestShared_28 : decode cX10_greatestShared 28 = .ok (.lstore 9, 2) := by decide +kernel
theorem dX10_greatestShared_30 : decode cX10_greatestShared 30 = .ok (.lload 6, 2) := by decide +kernel
theorem dX10_greatestShared_32 : decode cX10_greatestShared 32 = .ok (.lstore 4, 2) := by decide +kernel
theorem dX10_greatestShared_34 : decode cX10_greatestShared 34 = .ok (.lload 9, 2) := by decide +kernel
theorem dX10_greatestShared_36 : decode cX10_greatestShared 36 = .ok (.lstore 6, 2) := by decide +kernel
theorem dX10_greatestShared_38 : decode cX10_greatestShared 38 = .ok (.iinc 8 1, 3) := by decide +kernel
theorem dX10_greatestShared_41 : decode cX10_greatestShared 41 = .ok (.goto (-32), 3) := by decide +kernel
theorem dX10_greatestShared_44 : decode cX10_greatestShared 44 = .ok (.lload 4, 2) := by decide +kernel
theorem dX10_greatestShared_46 : decode cX10_greatestShared 46 = .ok (.lreturn, 1) := by decide +kernel
theorem dX10_performByLot_0 : decode cX10_performByLot 0 = .ok (.lload_n 1, 1) := by decide +kernel
theorem dX10_performByLot_1 : decode cX10_performByLot 1 = .ok (.ldc2_w 308, 3) := by decide +kernel
theorem dX10_performByLot_4 : decode cX10_performByLot 4 = .ok (.ldiv, 1) := by decide +kernel
theorem dX10_performByLot_5 : decode cX10_performByLot 5 = .ok (.ldc2_w 310, 3) := by decide +kernel
theorem dX10_performByLot_8 : decode cX10_performByLot 8 = .ok (.lrem, 1) := by decide +kernel
theorem dX10_performByLot_9 : decode cX10_performByLot 9 = .ok (.l2i, 1) := by decide +kernel
theorem dX10_performByLot_10 : decode cX10_performByLot 10 = .ok (.istore_n 3, 1) := by decide +kernel
theorem dX10_performByLot_11 : decode cX10_performByLot 11 = .ok (.lload_n 1, 1) := by decide +kernel
theorem dX10_performByLot_12 : decode cX10_performByLot 12 = .ok (.ldc2_w 308, 3) := by decide +kernel
theorem dX10_performByLot_15 : decode cX10_performByLot 15 = .ok (.lrem, 1) := by decide +kernel
theorem dX10_performByLot_16 : decode cX10_performByLot 16 = .ok (.l2i, 1) := by decide +kernel
theorem dX10_performByLot_17 : decode cX10_performByLot 17 = .ok (.istore 4, 2) := by decide +kernel
theorem dX10_performByLot_19 : decode cX10_performByLot 19 = .ok (.iload 4, 2) := by decide +kernel
theorem dX10_performByLot_21 : decode cX10_performByLot 21 = .ok (.ifCond .ne 32, 3) := by decide +kernel
theorem dX10_performByLot_24 : decode cX10_performByLot 24 = .ok (.aload_n 0, 1) := by decide +kernel
theorem dX10_performByLot_25 : decode cX10_performByLot 25 = .ok (.getfield 28, 3) := by decide +kernel
theorem dX10_performByLot_28 : decode cX10_performByLot 28 = .ok (.aload_n 0, 1) := by decide +kernel
theorem dX10_performByLot_29 : decode cX10_performByLot 29 = .ok (.getfield 28, 3) := by decide +kernel
theorem dX10_performByLot_32 : decode cX10_performByLot 32 = .ok (.getfield 137, 3) := by decide +kernel
theorem dX10_performByLot_35 : decode cX10_performByLot 35 = .ok (.iload_n 3, 1) := by decide +kernel
theorem dX10_performByLot_36 : decode cX10_performByLot 36 = .ok (.iaload, 1) := by decide +kernel
theorem dX10_performByLot_37 : decode cX10_performByLot 37 = .ok (.ifCond .le 7, 3) := by decide +kernel
theorem dX10_performByLot_40 : decode cX10_performByLot 40 = .ok (.iconst 3, 1) := by decide +kernel
theorem dX10_performByLot_41 : decode cX10_performByLot 41 = .ok (.goto 4, 3) := by decide +kernel
theorem dX10_performByLot_44 : decode cX10_performByLot 44 = .ok (.iconst 0, 1) := by decide +kernel
theorem dX10_performByLot_45 : decode cX10_performByLot 45 = .ok (.iload_n 3, 1) := by decide +kernel
theorem dX10_performByLot_46 : decode cX10_performByLot 46 = .ok (.iconst 0, 1) := by decide +kernel
theorem dX10_performByLot_47 : decode cX10_performByLot 47 = .ok (.invokevirtual 171, 3) := by decide +kernel
theorem dX10_performByLot_50 : decode cX10_performByLot 50 = .ok (.goto 135, 3) := by decide +kernel
theorem dX10_performByLot_53 : decode cX10_performByLot 53 = .ok (.iload 4, 2) := by decide +kernel
theorem dX10_performByLot_55 : decode cX10_performByLot 55 = .ok (.iconst 2, 1) := by decide +kernel
theorem dX10_performByLot_56 : decode cX10_performByLot 56 = .ok (.if_icmp .gt 34, 3) := by decide +kernel
theorem dX10_performByLot_59 : decode cX10_performByLot 59 = .ok (.aload_n 0, 1) := by decide +kernel
theorem dX10_performByLot_60 : decode cX10_performByLot 60 = .ok (.getfield 28, 3) := by decide +kernel
theorem dX10_performByLot_63 : decode cX10_performByLot 63 = .ok (.aload_n 0, 1) := by decide +kernel
theorem dX10_performByLot_64 : decode cX10_performByLot 64 = .ok (.getfield 28, 3) := by decide +kernel
theorem dX10_performByLot_67 : decode cX10_performByLot 67 = .ok (.getfield 137, 3) := by decide +kernel
theorem dX10_performByLot_70 : decode cX10_performByLot 70 = .ok (.iload_n 3, 1) := by decide +kernel
theorem dX10_performByLot_71 : decode cX10_performByLot 71 = .ok (.iaload, 1) := by decide +kernel
theorem dX10_performByLot_72 : decode cX10_performByLot 72 = .ok (.bipush 9, 2) := by decide +kernel
theorem dX10_performByLot_74 : decode cX10_performByLot 74 = .ok (.if_icmp .ge 7, 3) := by decide +kernel
theorem dX10_performByLot_77 : decode cX10_performByLot 77 = .ok (.iconst 2, 1) := by decide +kernel
theorem dX10_performByLot_78 : decode cX10_performByLot 78 = .ok (.goto 4, 3) := by decide +kernel
theorem dX10_performByLot_81 : decode cX10_performByLot 81 = .ok (.iconst 0, 1) := by decide +kernel
theorem dX10_performByLot_82 : decode cX10_performByLot 82 = .ok (.iload_n 3, 1) := by decide +kernel
theorem dX10_performByLot_83 : decode cX10_performByLot 83 = .ok (.iconst 1, 1) := by decide +kernel
theorem dX10_performByLot_84 : decode cX10_performByLot 84 = .ok (.invokevirtual 171, 3) := by decide +kernel
theorem dX10_performByLot_87 : decode cX10_performByLot 87 = .ok (.goto 98, 3) := by decide +kernel
theorem dX10_performByLot_90 : decode cX10_performByLot 90 = .ok (.iload 4, 2) := by decide +kernel
theorem dX10_performByLot_92 : decode cX10_performByLot 92 = .ok (.iconst 3, 1) := by decide +kernel
theorem dX10_performByLot_93 : decode cX10_performByLot 93 = .ok (.if_icmp .ne 66, 3) := by decide +kernel
theorem dX10_performByLot_96 : decode cX10_performByLot 96 = .ok (.aload_n 0, 1) := by decide +kernel
theorem dX10_performByLot_97 : decode cX10_performByLot 97 = .ok (.getfield 28, 3) := by decide +kernel
theorem dX10_performByLot_100 : decode cX10_performByLot 100 = .ok (.getfield 118, 3) := by decide +kernel
theorem dX10_performByLot_103 : decode cX10_performByLot 103 = .ok (.ifCond .le 21, 3) := by decide +kernel
theorem dX10_performByLot_106 : decode cX10_performByLot 106 = .ok (.lload_n 1, 1) := by decide +kernel
theorem dX10_performByLot_107 : decode cX10_performByLot 107 = .ok (.ldc2_w 312, 3) := by decide +kernel
theorem dX10_performByLot_110 : decode cX10_performByLot 110 = .ok (.ldiv, 1) := by decide +kernel
theorem dX10_performByLot_111 : decode cX10_performByLot 111 = .ok (.aload_n 0, 1) := by decide +kernel
theorem dX10_performByLot_112 : decode cX10_performByLot 112 = .ok (.getfield 28, 3) := by decide +kernel
theorem dX10_performByLot_115 : decode cX10_performByLot 115 = .ok (.getfield 118, 3) := by decide +kernel
theorem dX10_performByLot_118 : decode cX10_performByLot 118 = .ok (.i2l, 1) := by decide +kernel
theorem dX10_performByLot_119 : decode cX10_performByLot 119 = .ok (.lrem, 1) := by decide +kernel
theorem dX10_performByLot_120 : decode cX10_performByLot 120 = .ok (.l2i, 1) := by decide +kernel
theorem dX10_performByLot_121 : decode cX10_performByLot 121 = .ok (.goto 4, 3) := by decide +kernel
theorem dX10_performByLot_124 : decode cX10_performByLot 124 = .ok (.iconst 0, 1) := by decide +kernel
theorem dX10_performByLot_125 : decode cX10_performByLot 125 = .ok (.istore 5, 2) := by decide +kernel
theorem dX10_performByLot_127 : decode cX10_performByLot 127 = .ok (.aload_n 0, 1) := by decide +kernel
theorem dX10_performByLot_128 : decode cX10_performByLot 128 = .ok (.getfield 28, 3) := by decide +kernel
theorem dX10_performByLot_131 : decode cX10_performByLot 131 = .ok (.aload_n 0, 1) := by decide +kernel
theorem dX10_performByLot_132 : decode cX10_performByLot 132 = .ok (.getfield 28, 3) := by decide +kernel
theorem dX10_performByLot_135 : decode cX10_performByLot 135 = .ok (.getfield 179, 3) := by decide +kernel
theorem dX10_performByLot_138 : decode cX10_performByLot 138 = .ok (.iload 5, 2) := by decide +kernel
theorem dX10_performByLot_140 : decode cX10_performByLot 140 = .ok (.iaload, 1) := by decide +kernel
theorem dX10_performByLot_141 : decode cX10_performByLot 141 = .ok (.iload_n 3, 1) := by decide +kernel
theorem dX10_performByLot_142 : decode cX10_performByLot 142 = .ok (.if_icmp .eq 7, 3) := by decide +kernel
theorem dX10_performByLot_145 : decode cX10_performByLot 145 = .ok (.iconst 4, 1) := by decide +kernel
theorem dX10_performByLot_146 : decode cX10_performByLot 146 = .ok (.goto 4, 3) := by decide +kernel
theorem dX10_performByLot_149 : decode cX10_performByLot 149 = .ok (.iconst 0, 1) := by decide +kernel
theorem dX10_performByLot_150 : decode cX10_performByLot 150 = .ok (.iload 5, 2) := by decide +kernel
theorem dX10_performByLot_152 : decode cX10_performByLot 152 = .ok (.iload_n 3, 1) := by decide +kernel
theorem dX10_performByLot_153 : decode cX10_performByLot 153 = .ok (.invokevirtual 171, 3) := by decide +kernel
theorem dX10_performByLot_156 : decode cX10_performByLot 156 = .ok (.goto 29, 3) := by decide +kernel
theorem dX10_performByLot_159 : decode cX10_performByLot 159 = .ok (.aload_n 0, 1) := by decide +kernel
theorem dX10_performByLot_160 : decode cX10_performByLot 160 = .ok (.getfield 28, 3) := by decide +kernel
theorem dX10_performByLot_163 : decode cX10_performByLot 163 = .ok (.aload_n 0, 1) := by decide +kernel
theorem dX10_performByLot_164 : decode cX10_performByLot 164 = .ok (.getfield 28, 3) := by decide +kernel
theorem dX10_performByLot_167 : decode cX10_performByLot 167 = .ok (.getfield 151, 3) := by decide +kernel
theorem dX10_performByLot_170 : decode cX10_performByLot 170 = .ok (.bipush 99, 2) := by decide +kernel
theorem dX10_performByLot_172 : decode cX10_performByLot 172 = .ok (.if_icmp .ge 7, 3) := by decide +kernel
theorem dX10_performByLot_175 : decode cX10_performByLot 175 = .ok (.iconst 1, 1) := by decide +kernel
theorem dX10_performByLot_176 : decode cX10_performByLot 176 = .ok (.goto 4, 3) := by decide +kernel
theorem dX10_performByLot_179 : decode cX10_performByLot 179 = .ok (.iconst 0, 1) := by decide +kernel
theorem dX10_performByLot_180 : decode cX10_performByLot 180 = .ok (.iconst 0, 1) := by decide +kernel
theorem dX10_performByLot_181 : decode cX10_performByLot 181 = .ok (.iconst 0, 1) := by decide +kernel
theorem dX10_performByLot_182 : decode cX10_performByLot 182 = .ok (.invokevirtual 171, 3) := by decide +kernel
theorem dX10_performByLot_185 : decode cX10_performByLot 185 = .ok (.return_, 1) := by decide +kernel
theorem dX10_howManyAreThere_0 : decode cX10_howManyAreThere 0 = .ok (.iconst 0, 1) := by decide +kernel
theorem dX10_howManyAreThere_1 : decode cX10_howManyAreThere 1 = .ok (.istore_n 1, 1) := by decide +kernel
theorem dX10_howManyAreThere_2 : decode cX10_howManyAreThere 2 = .ok (.aload_n 0, 1) := by decide +kernel
theorem dX10_howManyAreThere_3 : decode cX10_howManyAreThere 3 = .ok (.astore_n 2, 1) := by decide +kernel
theorem dX10_howManyAreThere_4 : decode cX10_howManyAreThere 4 = .ok (.aload_n 2, 1) := by decide +kernel
theorem dX10_howManyAreThere_5 : decode cX10_howManyAreThere 5 = .ok (.arraylength, 1) := by decide +kernel
theorem dX10_howManyAreThere_6 : decode cX10_howManyAreThere 6 = .ok (.istore_n 3, 1) := by decide +kernel
theorem dX10_howManyAreThere_7 : decode cX10_howManyAreThere 7 = .ok (.iconst 0, 1) := by decide +kernel
theorem dX10_howManyAreThere_8 : decode cX10_howManyAreThere 8 = .ok (.istore 4, 2) := by decide +kernel
theorem dX10_howManyAreThere_10 : decode cX10_howManyAreThere 10 = .ok (.iload 4, 2) := by decide +kernel
theorem dX10_howManyAreThere_12 : decode cX10_howManyAreThere 12 = .ok (.iload_n 3, 1) := by decide +kernel
theorem dX10_howManyAreThere_13 : decode cX10_howManyAreThere 13 = .ok (.if_icmp .ge 26, 3) := by decide +kernel
theorem dX10_howManyAreThere_16 : decode cX10_howManyAreThere 16 = .ok (.aload_n 2, 1) := by decide +kernel
theorem dX10_howManyAreThere_17 : decode cX10_howManyAreThere 17 = .ok (.iload 4, 2) := by decide +kernel
theorem dX10_howManyAreThere_19 : decode cX10_howManyAreThere 19 = .ok (.aaload, 1) := by decide +kernel
theorem dX10_howManyAreThere_20 : decode cX10_howManyAreThere 20 = .ok (.astore 5, 2) := by decide +kernel
theorem dX10_howManyAreThere_22 : decode cX10_howManyAreThere 22 = .ok (.aload 5, 2) := by decide +kernel
theorem dX10_howManyAreThere_24 : decode cX10_howManyAreThere 24 = .ok (.invokevirtual 83, 3) := by decide +kernel
theorem dX10_howManyAreThere_27 : decode cX10_howManyAreThere 27 = .ok (.ifCond .eq 6, 3) := by decide +kernel
theorem dX10_howManyAreThere_30 : decode cX10_howManyAreThere 30 = .ok (.iinc 1 1, 3) := by decide +kernel
theorem dX10_howManyAreThere_33 : decode cX10_howManyAreThere 33 = .ok (.iinc 4 1, 3) := by decide +kernel
theorem dX10_howManyAreThere_36 : decode cX10_howManyAreThere 36 = .ok (.goto (-26), 3) := by decide +kernel
theorem dX10_howManyAreThere_39 : decode cX10_howManyAreThere 39 = .ok (.iload_n 1, 1) := by decide +kernel
theorem dX10_howManyAreThere_40 : decode cX10_howManyAreThere 40 = .ok (.ireturn, 1) := by decide +kernel
theorem dX10_howManyAreKept_0 : decode cX10_howManyAreKept 0 = .ok (.iconst 0, 1) := by decide +kernel
theorem dX10_howManyAreKept_1 : decode cX10_howManyAreKept 1 = .ok (.istore_n 1, 1) := by decide +kernel
theorem dX10_howManyAreKept_2 : decode cX10_howManyAreKept 2 = .ok (.iconst 0, 1) := by decide +kernel
theorem dX10_howManyAreKept_3 : decode cX10_howManyAreKept 3 = .ok (.istore_n 2, 1) := by decide +kernel
theorem dX10_howManyAreKept_4 : decode cX10_howManyAreKept 4 = .ok (.iload_n 2, 1) := by decide +kernel
theorem dX10_howManyAreKept_5 : decode cX10_howManyAreKept 5 = .ok (.iconst 3, 1) := by decide +kernel
theorem dX10_howManyAreKept_6 : decode cX10_howManyAreKept 6 = .ok (.if_icmp .ge 24, 3) := by decide +kernel
theorem dX10_howManyAreKept_9 : decode cX10_howManyAreKept 9 = .ok (.aload_n 0, 1) := by decide +kernel
theorem dX10_howManyAreKept_10 : decode cX10_howManyAreKept 10 = .ok (.getfield 32, 3) := by decide +kernel
theorem dX10_howManyAreKept_13 : decode cX10_howManyAreKept 13 = .ok (.iload_n 2, 1) := by decide +kernel
theorem dX10_howManyAreKept_14 : decode cX10_howManyAreKept 14 = .ok (.aaload, 1) := by decide +kernel
theorem dX10_howManyAreKept_15 : decode cX10_howManyAreKept 15 = .ok (.invokevirtual 131, 3) := by decide +kernel
theorem dX10_howManyAreKept_18 : decode cX10_howManyAreKept 18 = .ok (.ifCond .eq 6, 3) := by decide +kernel
theorem dX10_howManyAreKept_21 : decode cX10_howManyAreKept 21 = .ok (.iinc 1 1, 3) := by decide +kernel
theorem dX10_howManyAreKept_24 : decode cX10_howManyAreKept 24 = .ok (.iinc 2 1, 3) := by decide +kernel
theorem dX10_howManyAreKept_27 : decode cX10_howManyAreKept 27 = .ok (.goto (-23), 3) := by decide +kernel
theorem dX10_howManyAreKept_30 : decode cX10_howManyAreKept 30 = .ok (.iload_n 1, 1) := by decide +kernel
theorem dX10_howManyAreKept_31 : decode cX10_howManyAreKept 31 = .ok (.ireturn, 1) := by decide +kernel
theorem dX10_howManyOfKind_0 : decode cX10_howManyOfKind 0 = .ok (.iconst 0, 1) := by decide +kernel
theorem dX10_howManyOfKind_1 : decode cX10_howManyOfKind 1 = .ok (.istore_n 2, 1) := by decide +kernel
theorem dX10_howManyOfKind_2 : decode cX10_howManyOfKind 2 = .ok (.iconst 0, 1) := by decide +kernel
theorem dX10_howManyOfKind_3 : decode cX10_howManyOfKind 3 = .ok (.istore_n 3, 1) := by decide +kernel
theorem dX10_howManyOfKind_4 : decode cX10_howManyOfKind 4 = .ok (.iload_n 3, 1) := by decide +kernel
theorem dX10_howManyOfKind_5 : decode cX10_howManyOfKind 5 = .ok (.aload_n 0, 1) := by decide +kernel
theorem dX10_howManyOfKind_6 : decode cX10_howManyOfKind 6 = .ok (.getfield 28, 3) := by decide +kernel
theorem dX10_howManyOfKind_9 : decode cX10_howManyOfKind 9 = .ok (.getfield 118, 3) := by decide +kernel
theorem dX10_howManyOfKind_12 : decode cX10_howManyOfKind 12 = .ok (.if_icmp .ge 28, 3) := by decide +kernel
theorem dX10_howManyOfKind_15 : decode cX10_howManyOfKind 15 = .ok (.aload_n 0, 1) := by decide +kernel
theorem dX10_howManyOfKind_16 : decode cX10_howManyOfKind 16 = .ok (.aload_n 0, 1) := by decide +kernel
theorem dX10_howManyOfKind_17 : decode cX10_howManyOfKind 17 = .ok (.getfield 28, 3) := by decide +kernel
theorem dX10_howManyOfKind_20 : decode cX10_howManyOfKind 20 = .ok (.iload_n 3, 1) := by decide +kernel
theorem dX10_howManyOfKind_21 : decode cX10_howManyOfKind 21 = .ok (.invokevirtual 140, 3) := by decide +kernel
theorem dX10_howManyOfKind_24 : decode cX10_howManyOfKind 24 = .ok (.iload_n 1, 1) := by decide +kernel
theorem dX10_howManyOfKind_25 : decode cX10_howManyOfKind 25 = .ok (.invokevirtual 144, 3) := by decide +kernel
theorem dX10_howManyOfKind_28 : decode cX10_howManyOfKind 28 = .ok (.ifCond .eq 6, 3) := by decide +kernel
theorem dX10_howManyOfKind_31 : decode cX10_howManyOfKind 31 = .ok (.iinc 2 1, 3) := by decide +kernel
theorem dX10_howManyOfKind_34 : decode cX10_howManyOfKind 34 = .ok (.iinc 3 1, 3) := by decide +kernel
theorem dX10_howManyOfKind_37 : decode cX10_howManyOfKind 37 = .ok (.goto (-33), 3) := by decide +kernel
theorem dX10_howManyOfKind_40 : decode cX10_howManyOfKind 40 = .ok (.iload_n 2, 1) := by decide +kernel
theorem dX10_howManyOfKind_41 : decode cX10_howManyOfKind 41 = .ok (.ireturn, 1) := by decide +kernel
