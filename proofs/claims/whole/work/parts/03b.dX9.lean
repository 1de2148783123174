theorem dX9_init_0 : decode cX9_init 0 = .ok (.aload_n 0, 1) := by decide +kernel
theorem dX9_init_1 : decode cX9_init 1 = .ok (.invokespecial 3, 3) := by decide +kernel
theorem dX9_init_4 : decode cX9_init 4 = .ok (.aload_n 0, 1) := by decide +kernel
theorem dX9_init_5 : decode cX9_init 5 = .ok (.iconst 0, 1) := by decide +kernel
theorem dX9_init_6 : decode cX9_init 6 = .ok (.putfield 9, 3) := by decide +kernel
theorem dX9_init_9 : decode cX9_init 9 = .ok (.aload_n 0, 1) := by decide +kernel
theorem dX9_init_10 : decode cX9_init 10 = .ok (.iconst 0, 1) := by decide +kernel
theorem dX9_init_11 : decode cX9_init 11 = .ok (.putfield 15, 3) := by decide +kernel
theorem dX9_init_14 : decode cX9_init 14 = .ok (.aload_n 0, 1) := by decide +kernel
theorem dX9_init_15 : decode cX9_init 15 = .ok (.iconst 0, 1) := by decide +kernel
theorem dX9_init_16 : decode cX9_init 16 = .ok (.putfield 18, 3) := by decide +kernel
theorem dX9_init_19 : decode cX9_init 19 = .ok (.aload_n 0, 1) := by decide +kernel
theorem dX9_init_20 : decode cX9_init 20 = .ok (.bipush 6, 2) := by decide +kernel
theorem dX9_init_22 : decode cX9_init 22 = .ok (.anewarray 21, 3) := by decide +kernel
theorem dX9_init_25 : decode cX9_init 25 = .ok (.dup, 1) := by decide +kernel
theorem dX9_init_26 : decode cX9_init 26 = .ok (.iconst 0, 1) := by decide +kernel
theorem dX9_init_27 : decode cX9_init 27 = .ok (.new 21, 3) := by decide +kernel
theorem dX9_init_30 : decode cX9_init 30 = .ok (.dup, 1) := by decide +kernel
theorem dX9_init_31 : decode cX9_init 31 = .ok (.invokespecial 23, 3) := by decide +kernel
theorem dX9_init_34 : decode cX9_init 34 = .ok (.aastore, 1) := by decide +kernel
theorem dX9_init_35 : decode cX9_init 35 = .ok (.dup, 1) := by decide +kernel
theorem dX9_init_36 : decode cX9_init 36 = .ok (.iconst 1, 1) := by decide +kernel
theorem dX9_init_37 : decode cX9_init 37 = .ok (.new 24, 3) := by decide +kernel
theorem dX9_init_40 : decode cX9_init 40 = .ok (.dup, 1) := by decide +kernel
theorem dX9_init_41 : decode cX9_init 41 = .ok (.invokespecial 26, 3) := by decide +kernel
theorem dX9_init_44 : decode cX9_init 44 = .ok (.aastore, 1) := by decide +kernel
theorem dX9_init_45 : decode cX9_init 45 = .ok (.dup, 1) := by decide +kernel
theorem dX9_init_46 : decode cX9_init 46 = .ok (.iconst 2, 1) := by decide +kernel
theorem dX9_init_47 : decode cX9_init 47 = .ok (.new 27, 3) := by decide +kernel
theorem dX9_init_50 : decode cX9_init 50 = .ok (.dup, 1) := by decide +kernel
theorem dX9_init_51 : decode cX9_init 51 = .ok (.invokespecial 29, 3) := by decide +kernel
theorem dX9_init_54 : decode cX9_init 54 = .ok (.aastore, 1) := by decide +kernel
theorem dX9_init_55 : decode cX9_init 55 = .ok (.dup, 1) := by decide +kernel
theorem dX9_init_56 : decode cX9_init 56 = .ok (.iconst 3, 1) := by decide +kernel
theorem dX9_init_57 : decode cX9_init 57 = .ok (.new 30, 3) := by decide +kernel
theorem dX9_init_60 : decode cX9_init 60 = .ok (.dup, 1) := by decide +kernel
theorem dX9_init_61 : decode cX9_init 61 = .ok (.invokespecial 32, 3) := by decide +kernel
theorem dX9_init_64 : decode cX9_init 64 = .ok (.aastore, 1) := by decide +kernel
theorem dX9_init_65 : decode cX9_init 65 = .ok (.dup, 1) := by decide +kernel
theorem dX9_init_66 : decode cX9_init 66 = .ok (.iconst 4, 1) := by decide +kernel
theorem dX9_init_67 : decode cX9_init 67 = .ok (.new 33, 3) := by decide +kernel
theorem dX9_init_70 : decode cX9_init 70 = .ok (.dup, 1) := by decide +kernel
theorem dX9_init_71 : decode cX9_init 71 = .ok (.invokespecial 35, 3) := by decide +kernel
theorem dX9_init_74 : decode cX9_init 74 = .ok (.aastore, 1) := by decide +kernel
theorem dX9_init_75 : decode cX9_init 75 = .ok (.dup, 1) := by decide +kernel
theorem dX9_init_76 : decode cX9_init 76 = .ok (.iconst 5, 1) := by decide +kernel
theorem dX9_init_77 : decode cX9_init 77 = .ok (.new 36, 3) := by decide +kernel
theorem dX9_init_80 : decode cX9_init 80 = .ok (.dup, 1) := by decide +kernel
theorem dX9_init_81 : decode cX9_init 81 = .ok (.invokespecial 38, 3) := by decide +kernel
theorem dX9_init_84 : decode cX9_init 84 = .ok (.aastore, 1) := by decide +kernel
theorem dX9_init_85 : decode cX9_init 85 = .ok (.putfield 39, 3) := by decide +kernel
theorem dX9_init_88 : decode cX9_init 88 = .ok (.aload_n 0, 1) := by decide +kernel
theorem dX9_init_89 : decode cX9_init 89 = .ok (.bipush 7, 2) := by decide +kernel
theorem dX9_init_91 : decode cX9_init 91 = .ok (.newarray .int, 2) := by decide +kernel
theorem dX9_init_93 : decode cX9_init 93 = .ok (.putfield 43, 3) := by decide +kernel
theorem dX9_init_96 : decode cX9_init 96 = .ok (.aload_n 0, 1) := by decide +kernel
theorem dX9_init_97 : decode cX9_init 97 = .ok (.bipush 7, 2) := by decide +kernel
theorem dX9_init_99 : decode cX9_init 99 = .ok (.newarray .int, 2) := by decide +kernel
theorem dX9_init_101 : decode cX9_init 101 = .ok (.putfield 47, 3) := by decide +kernel
theorem dX9_init_104 : decode cX9_init 104 = .ok (.aload_n 0, 1) := by decide +kernel
theorem dX9_init_105 : decode cX9_init 105 = .ok (.bipush 7, 2) := by decide +kernel
theorem dX9_init_107 : decode cX9_init 107 = .ok (.newarray .int, 2) := by decide +kernel
theorem dX9_init_109 : decode cX9_init 109 = .ok (.putfield 50, 3) := by decide +kernel
theorem dX9_init_112 : decode cX9_init 112 = .ok (.aload_n 0, 1) := by decide +kernel
theorem dX9_init_113 : decode cX9_init 113 = .ok (.bipush 7, 2) := by decide +kernel
theorem dX9_init_115 : decode cX9_init 115 = .ok (.newarray .int, 2) := by decide +kernel
theorem dX9_init_117 : decode cX9_init 117 = .ok (.putfield 53, 3) := by decide +kernel
theorem dX9_init_120 : decode cX9_init 120 = .ok (.aload_n 0, 1) := by decide +kernel
theorem dX9_init_121 : decode cX9_init 121 = .ok (.bipush 7, 2) := by decide +kernel
theorem dX9_init_123 : decode cX9_init 123 = .ok (.newarray .int, 2) := by decide +kernel
theorem dX9_init_125 : decode cX9_init 125 = .ok (.putfield 56, 3) := by decide +kernel
theorem dX9_init_128 : decode cX9_init 128 = .ok (.aload_n 0, 1) := by decide +kernel
theorem dX9_init_129 : decode cX9_init 129 = .ok (.iconst 5, 1) := by decide +kernel
theorem dX9_init_130 : decode cX9_init 130 = .ok (.newarray .int, 2) := by decide +kernel
theorem dX9_init_132 : decode cX9_init 132 = .ok (.putfield 59, 3) := by decide +kernel
theorem dX9_init_135 : decode cX9_init 135 = .ok (.aload_n 0, 1) := by decide +kernel
theorem dX9_init_136 : decode cX9_init 136 = .ok (.bipush 7, 2) := by decide +kernel
theorem dX9_init_138 : decode cX9_init 138 = .ok (.newarray .int, 2) := by decide +kernel
theorem dX9_init_140 : decode cX9_init 140 = .ok (.putfield 62, 3) := by decide +kernel
theorem dX9_init_143 : decode cX9_init 143 = .ok (.aload_n 0, 1) := by decide +kernel
theorem dX9_init_144 : decode cX9_init 144 = .ok (.bipush 7, 2) := by decide +kernel
theorem dX9_init_146 : decode cX9_init 146 = .ok (.newarray .int, 2) := by decide +kernel
theorem dX9_init_148 : decode cX9_init 148 = .ok (.putfield 65, 3) := by decide +kernel
theorem dX9_init_151 : decode cX9_init 151 = .ok (.aload_n 0, 1) := by decide +kernel
theorem dX9_init_152 : decode cX9_init 152 = .ok (.iconst 5, 1) := by decide +kernel
theorem dX9_init_153 : decode cX9_init 153 = .ok (.newarray .int, 2) := by decide +kernel
theorem dX9_init_155 : decode cX9_init 155 = .ok (.putfield 68, 3) := by decide +kernel
theorem dX9_init_158 : decode cX9_init 158 = .ok (.aload_n 0, 1) := by decide +kernel
theorem dX9_init_159 : decode cX9_init 159 = .ok (.bipush 40, 2) := by decide +kernel
theorem dX9_init_161 : decode cX9_init 161 = .ok (.newarray .int, 2) := by decide +kernel
theorem dX9_init_163 : decode cX9_init 163 = .ok (.putfield 71, 3) := by decide +kernel
theorem dX9_init_166 : decode cX9_init 166 = .ok (.aload_n 0, 1) := by decide +kernel
theorem dX9_init_167 : decode cX9_init 167 = .ok (.bipush 40, 2) := by decide +kernel
theorem dX9_init_169 : decode cX9_init 169 = .ok (.newarray .int, 2) := by decide +kernel
theorem dX9_init_171 : decode cX9_init 171 = .ok (.putfield 74, 3) := by decide +kernel
theorem dX9_init_174 : decode cX9_init 174 = .ok (.aload_n 0, 1) := by decide +kernel
theorem dX9_init_175 : decode cX9_init 175 = .ok (.bipush 40, 2) := by decide +kernel
theorem dX9_init_177 : decode cX9_init 177 = .ok (.newarray .int, 2) := by decide +kernel
theorem dX9_init_179 : decode cX9_init 179 = .ok (.putfield 77, 3) := by decide +kernel
theorem dX9_init_182 : decode cX9_init 182 = .ok (.return_, 1) := by decide +kernel
theorem dX9_hasPeople_0 : decode cX9_hasPeople 0 = .ok (.aload_n 0, 1) := by decide +kernel
theorem dX9_hasPeople_1 : decode cX9_hasPeople 1 = .ok (.getfield 9, 3) := by decide +kernel
theorem dX9_hasPeople_4 : decode cX9_hasPeople 4 = .ok (.ifCond .le 7, 3) := by decide +kernel
theorem dX9_hasPeople_7 : decode cX9_hasPeople 7 = .ok (.iconst 1, 1) := by decide +kernel
theorem dX9_hasPeople_8 : decode cX9_hasPeople 8 = .ok (.goto 4, 3) := by decide +kernel
theorem dX9_hasPeople_11 : decode cX9_hasPeople 11 = .ok (.iconst 0, 1) := by decide +kernel
theorem dX9_hasPeople_12 : decode cX9_hasPeople 12 = .ok (.ireturn, 1) := by decide +kernel
theorem dX9_sortOf_0 : decode cX9_sortOf 0 = .ok (.aload_n 0, 1) := by decide +kernel
theorem dX9_sortOf_1 : decode cX9_sortOf 1 = .ok (.getfield 39, 3) := by decide +kernel
theorem dX9_sortOf_4 : decode cX9_sortOf 4 = .ok (.aload_n 0, 1) := by decide +kernel
theorem dX9_sortOf_5 : decode cX9_sortOf 5 = .ok (.getfield 43, 3) := by decide +kernel
theorem dX9_sortOf_8 : decode cX9_sortOf 8 = .ok (.iload_n 1, 1) := by decide +kernel
theorem dX9_sortOf_9 : decode cX9_sortOf 9 = .ok (.iaload, 1) := by decide +kernel
theorem dX9_sortOf_10 : decode cX9_sortOf 10 = .ok (.aaload, 1) := by decide +kernel
theorem dX9_sortOf_11 : decode cX9_sortOf 11 = .ok (.areturn, 1) := by decide +kernel
theorem dX9_settle_0 : decode cX9_settle 0 = .ok (.aload_n 0, 1) := by decide +kernel
theorem dX9_settle_1 : decode cX9_settle 1 = .ok (.iconst 0, 1) := by decide +kernel
theorem dX9_settle_2 : decode cX9_settle 2 = .ok (.bipush 7, 2) := by decide +kernel
theorem dX9_settle_4 : decode cX9_settle 4 = .ok (.aload_n 1, 1) := by decide +kernel
theorem dX9_settle_5 : decode cX9_settle 5 = .ok (.invokevirtual 80, 3) := by decide +kernel
theorem dX9_settle_8 : decode cX9_settle 8 = .ok (.invokestatic 86, 3) := by decide +kernel
theorem dX9_settle_11 : decode cX9_settle 11 = .ok (.invokestatic 92, 3) := by decide +kernel
theorem dX9_settle_14 : decode cX9_settle 14 = .ok (.putfield 9, 3) := by decide +kernel
theorem dX9_settle_17 : decode cX9_settle 17 = .ok (.iconst 0, 1) := by decide +kernel
theorem dX9_settle_18 : decode cX9_settle 18 = .ok (.istore_n 2, 1) := by decide +kernel
theorem dX9_settle_19 : decode cX9_settle 19 = .ok (.iload_n 2, 1) := by decide +kernel
theorem dX9_settle_20 : decode cX9_settle 20 = .ok (.iconst 5, 1) := by decide +kernel
theorem dX9_settle_21 : decode cX9_settle 21 = .ok (.if_icmp .ge 21, 3) := by decide +kernel
theorem dX9_settle_24 : decode cX9_settle 24 = .ok (.aload_n 0, 1) := by decide +kernel
theorem dX9_settle_25 : decode cX9_settle 25 = .ok (.getfield 68, 3) := by decide +kernel
theorem dX9_settle_28 : decode cX9_settle 28 = .ok (.iload_n 2, 1) := by decide +kernel
theorem dX9_settle_29 : decode cX9_settle 29 = .ok (.aload_n 1, 1) := by decide +kernel
theorem dX9_settle_30 : decode cX9_settle 30 = .ok (.getfield 95, 3) := by decide +kernel
theorem dX9_settle_33 : decode cX9_settle 33 = .ok (.iload_n 2, 1) := by decide +kernel
theorem dX9_settle_34 : decode cX9_settle 34 = .ok (.iaload, 1) := by decide +kernel
theorem dX9_settle_35 : decode cX9_settle 35 = .ok (.iastore, 1) := by decide +kernel
theorem dX9_settle_36 : decode cX9_settle 36 = .ok (.iinc 2 1, 3) := by decide +kernel
theorem dX9_settle_39 : decode cX9_settle 39 = .ok (.goto (-20), 3) := by decide +kernel
theorem dX9_settle_42 : decode cX9_settle 42 = .ok (.iconst 0, 1) := by decide +kernel
theorem dX9_settle_43 : decode cX9_settle 43 = .ok (.istore_n 2, 1) := by decide +kernel
theorem dX9_settle_44 : decode cX9_settle 44 = .ok (.iload_n 2, 1) := by decide +kernel
theorem dX9_settle_45 : decode cX9_settle 45 = .ok (.aload_n 0, 1) := by decide +kernel
theorem dX9_settle_46 : decode cX9_settle 46 = .ok (.getfield 9, 3) := by decide +kernel
theorem dX9_settle_49 : decode cX9_settle 49 = .ok (.if_icmp .ge 88, 3) := by decide +kernel
theorem dX9_settle_52 : decode cX9_settle 52 = .ok (.iconst 5, 1) := by decide +kernel
theorem dX9_settle_53 : decode cX9_settle 53 = .ok (.iload_n 2, 1) := by decide +kernel
theorem dX9_settle_54 : decode cX9_settle 54 = .ok (.iconst 1, 1) := by decide +kernel
theorem dX9_settle_55 : decode cX9_settle 55 = .ok (.iadd, 1) := by decide +kernel
theorem dX9_settle_56 : decode cX9_settle 56 = .ok (.imul, 1) := by decide +kernel
theorem dX9_settle_57 : decode cX9_settle 57 = .ok (.istore_n 3, 1) := by decide +kernel
theorem dX9_settle_58 : decode cX9_settle 58 = .ok (.aload_n 0, 1) := by decide +kernel
theorem dX9_settle_59 : decode cX9_settle 59 = .ok (.getfield 43, 3) := by decide +kernel
theorem dX9_settle_62 : decode cX9_settle 62 = .ok (.iload_n 2, 1) := by decide +kernel
theorem dX9_settle_63 : decode cX9_settle 63 = .ok (.aload_n 1, 1) := by decide +kernel
theorem dX9_settle_64 : decode cX9_settle 64 = .ok (.getfield 95, 3) := by decide +kernel
theorem dX9_settle_67 : decode cX9_settle 67 = .ok (.iload_n 3, 1) := by decide +kernel
theorem dX9_settle_68 : decode cX9_settle 68 = .ok (.iaload, 1) := by decide +kernel
theorem dX9_settle_69 : decode cX9_settle 69 = .ok (.iastore, 1) := by decide +kernel
theorem dX9_settle_70 : decode cX9_settle 70 = .ok (.aload_n 0, 1) := by decide +kernel
theorem dX9_settle_71 : decode cX9_settle 71 = .ok (.getfield 47, 3) := by decide +kernel
theorem dX9_settle_74 : decode cX9_settle 74 = .ok (.iload_n 2, 1) := by decide +kernel
theorem dX9_settle_75 : decode cX9_settle 75 = .ok (.aload_n 1, 1) := by decide +kernel
theorem dX9_settle_76 : decode cX9_settle 76 = .ok (.getfield 95, 3) := by decide +kernel
theorem dX9_settle_79 : decode cX9_settle 79 = .ok (.iload_n 3, 1) := by decide +kernel
theorem dX9_settle_80 : decode cX9_settle 80 = .ok (.iconst 1, 1) := by decide +kernel
theorem dX9_settle_81 : decode cX9_settle 81 = .ok (.iadd, 1) := by decide +kernel
theorem dX9_settle_82 : decode cX9_settle 82 = .ok (.iaload, 1) := by decide +kernel
theorem dX9_settle_83 : decode cX9_settle 83 = .ok (.iastore, 1) := by decide +kernel
theorem dX9_settle_84 : decode cX9_settle 84 = .ok (.aload_n 0, 1) := by decide +kernel
theorem dX9_settle_85 : decode cX9_settle 85 = .ok (.getfield 50, 3) := by decide +kernel
theorem dX9_settle_88 : decode cX9_settle 88 = .ok (.iload_n 2, 1) := by decide +kernel
theorem dX9_settle_89 : decode cX9_settle 89 = .ok (.aload_n 0, 1) := by decide +kernel
theorem dX9_settle_90 : decode cX9_settle 90 = .ok (.iload_n 2, 1) := by decide +kernel
theorem dX9_settle_91 : decode cX9_settle 91 = .ok (.aload_n 1, 1) := by decide +kernel
theorem dX9_settle_92 : decode cX9_settle 92 = .ok (.getfield 95, 3) := by decide +kernel
theorem dX9_settle_95 : decode cX9_settle 95 = .ok (.iload_n 3, 1) := by decide +kernel
theorem dX9_settle_96 : decode cX9_settle 96 = .ok (.iconst 2, 1) := by decide +kernel
theorem dX9_settle_97 : decode cX9_settle 97 = .ok (.iadd, 1) := by decide +kernel
theorem dX9_settle_98 : decode cX9_settle 98 = .ok (.iaload, 1) := by decide +kernel
theorem dX9_settle_99 : decode cX9_settle 99 = .ok (.invokevirtual 98, 3) := by decide +kernel
theorem dX9_settle_102 : decode cX9_settle 102 = .ok (.iastore, 1) := by decide +kernel
theorem dX9_settle_103 : decode cX9_settle 103 = .ok (.aload_n 0, 1) := by decide +kernel
theorem dX9_settle_104 : decode cX9_settle 104 = .ok (.getfield 62, 3) := by decide +kernel
theorem dX9_settle_107 : decode cX9_settle 107 = .ok (.iload_n 2, 1) := by decide +kernel
theorem dX9_settle_108 : decode cX9_settle 108 = .ok (.aload_n 1, 1) := by decide +kernel
theorem dX9_settle_109 : decode cX9_settle 109 = .ok (.getfield 95, 3) := by decide +kernel
theorem dX9_settle_112 : decode cX9_settle 112 = .ok (.iload_n 3, 1) := by decide +kernel
theorem dX9_settle_113 : decode cX9_settle 113 = .ok (.iconst 3, 1) := by decide +kernel
theorem dX9_settle_114 : decode cX9_settle 114 = .ok (.iadd, 1) := by decide +kernel
theorem dX9_settle_115 : decode cX9_settle 115 = .ok (.iaload, 1) := by decide +kernel
theorem dX9_settle_116 : decode cX9_settle 116 = .ok (.iastore, 1) := by decide +kernel
theorem dX9_settle_117 : decode cX9_settle 117 = .ok (.aload_n 0, 1) := by decide +kernel
theorem dX9_settle_118 : decode cX9_settle 118 = .ok (.getfield 65, 3) := by decide +kernel
theorem dX9_settle_121 : decode cX9_settle 121 = .ok (.iload_n 2, 1) := by decide +kernel
theorem dX9_settle_122 : decode cX9_settle 122 = .ok (.aload_n 1, 1) := by decide +kernel
theorem dX9_settle_123 : decode cX9_settle 123 = .ok (.getfield 95, 3) := by decide +kernel
theorem dX9_settle_126 : decode cX9_settle 126 = .ok (.iload_n 3, 1) := by decide +kernel
theorem dX9_settle_127 : decode cX9_settle 127 = .ok (.iconst 4, 1) := by decide +kernel
theorem dX9_settle_128 : decode cX9_settle 128 = .ok (.iadd, 1) := by decide +kernel
theorem dX9_settle_129 : decode cX9_settle 129 = .ok (.iaload, 1) := by decide +kernel
theorem dX9_settle_130 : decode cX9_settle 130 = .ok (.iastore, 1) := by decide +kernel
theorem dX9_settle_131 : decode cX9_settle 131 = .ok (.iinc 2 1, 3) := by decide +kernel
theorem dX9_settle_134 : decode cX9_settle 134 = .ok (.goto (-90), 3) := by decide +kernel
theorem dX9_settle_137 : decode cX9_settle 137 = .ok (.aload_n 0, 1) := by decide +kernel
theorem dX9_settle_138 : decode cX9_settle 138 = .ok (.iconst 0, 1) := by decide +kernel
theorem dX9_settle_139 : decode cX9_settle 139 = .ok (.putfield 18, 3) := by decide +kernel
theorem dX9_settle_142 : decode cX9_settle 142 = .ok (.aload_n 0, 1) := by decide +kernel
theorem dX9_settle_143 : decode cX9_settle 143 = .ok (.invokevirtual 101, 3) := by decide +kernel
theorem dX9_settle_146 : decode cX9_settle 146 = .ok (.return_, 1) := by decide +kernel
theorem dX9_further_0 : decode cX9_further 0 = .ok (.aload_n 0, 1) := by decide +kernel
theorem dX9_further_1 : decode cX9_further 1 = .ok (.getfield 9, 3) := by decide +kernel
theorem dX9_further_4 : decode cX9_further 4 = .ok (.iconst 1, 1) := by decide +kernel
theorem dX9_further_5 : decode cX9_further 5 = .ok (.if_icmp .ge 5, 3) := by decide +kernel
theorem dX9_further_8 : decode cX9_further 8 = .ok (.iconst (-1), 1) := by decide +kernel
theorem dX9_further_9 : decode cX9_further 9 = .ok (.ireturn, 1) := by decide +kernel
theorem dX9_further_10 : decode cX9_further 10 = .ok (.iload_n 1, 1) := by decide +kernel
theorem dX9_further_11 : decode cX9_further 11 = .ok (.iload_n 2, 1) := by decide +kernel
theorem dX9_further_12 : decode cX9_further 12 = .ok (.iadd, 1) := by decide +kernel
theorem dX9_further_13 : decode cX9_further 13 = .ok (.aload_n 0, 1) := by decide +kernel
theorem dX9_further_14 : decode cX9_further 14 = .ok (.getfield 9, 3) := by decide +kernel
theorem dX9_further_17 : decode cX9_further 17 = .ok (.irem, 1) := by decide +kernel
theorem dX9_further_18 : decode cX9_further 18 = .ok (.istore_n 3, 1) := by decide +kernel
theorem dX9_further_19 : decode cX9_further 19 = .ok (.iload_n 3, 1) := by decide +kernel
theorem dX9_further_20 : decode cX9_further 20 = .ok (.iload_n 1, 1) := by decide +kernel
theorem dX9_further_21 : decode cX9_further 21 = .ok (.if_icmp .ne 7, 3) := by decide +kernel
theorem dX9_further_24 : decode cX9_further 24 = .ok (.iconst (-1), 1) := by decide +kernel
theorem dX9_further_25 : decode cX9_further 25 = .ok (.goto 4, 3) := by decide +kernel
theorem dX9_further_28 : decode cX9_further 28 = .ok (.iload_n 3, 1) := by decide +kernel
theorem dX9_further_29 : decode cX9_further 29 = .ok (.ireturn, 1) := by decide +kernel
theorem dX9_startAnew_0 : decode cX9_startAnew 0 = .ok (.aload_n 0, 1) := by decide +kernel
theorem dX9_startAnew_1 : decode cX9_startAnew 1 = .ok (.iconst 0, 1) := by decide +kernel
theorem dX9_startAnew_2 : decode cX9_startAnew 2 = .ok (.putfield 15, 3) := by decide +kernel
theorem dX9_startAnew_5 : decode cX9_startAnew 5 = .ok (.aload_n 0, 1) := by decide +kernel
theorem dX9_startAnew_6 : decode cX9_startAnew 6 = .ok (.getfield 68, 3) := by decide +kernel
theorem dX9_startAnew_9 : decode cX9_startAnew 9 = .ok (.iconst 0, 1) := by decide +kernel
theorem dX9_startAnew_10 : decode cX9_startAnew 10 = .ok (.aload_n 0, 1) := by decide +kernel
theorem dX9_startAnew_11 : decode cX9_startAnew 11 = .ok (.getfield 59, 3) := by decide +kernel
theorem dX9_startAnew_14 : decode cX9_startAnew 14 = .ok (.iconst 0, 1) := by decide +kernel
theorem dX9_startAnew_15 : decode cX9_startAnew 15 = .ok (.iconst 5, 1) := by decide +kernel
theorem dX9_startAnew_16 : decode cX9_startAnew 16 = .ok (.invokestatic 104, 3) := by decide +kernel
theorem dX9_startAnew_19 : decode cX9_startAnew 19 = .ok (.aload_n 0, 1) := by decide +kernel
theorem dX9_startAnew_20 : decode cX9_startAnew 20 = .ok (.getfield 62, 3) := by decide +kernel
theorem dX9_startAnew_23 : decode cX9_startAnew 23 = .ok (.iconst 0, 1) := by decide +kernel
theorem dX9_startAnew_24 : decode cX9_startAnew 24 = .ok (.aload_n 0, 1) := by decide +kernel
theorem dX9_startAnew_25 : decode cX9_startAnew 25 = .ok (.getfield 53, 3) := by decide +kernel
theorem dX9_startAnew_28 : decode cX9_startAnew 28 = .ok (.iconst 0, 1) := by decide +kernel
theorem dX9_startAnew_29 : decode cX9_startAnew 29 = .ok (.bipush 7, 2) := by decide +kernel
theorem dX9_startAnew_31 : decode cX9_startAnew 31 = .ok (.invokestatic 104, 3) := by decide +kernel
theorem dX9_startAnew_34 : decode cX9_startAnew 34 = .ok (.aload_n 0, 1) := by decide +kernel
theorem dX9_startAnew_35 : decode cX9_startAnew 35 = .ok (.getfield 65, 3) := by decide +kernel
theorem dX9_startAnew_38 : decode cX9_startAnew 38 = .ok (.iconst 0, 1) := by decide +kernel
theorem dX9_startAnew_39 : decode cX9_startAnew 39 = .ok (.aload_n 0, 1) := by decide +kernel
theorem dX9_startAnew_40 : decode cX9_startAnew 40 = .ok (.getfield 56, 3) := by decide +kernel
theorem dX9_startAnew_43 : decode cX9_startAnew 43 = .ok (.iconst 0, 1) := by decide +kernel
theorem dX9_startAnew_44 : decode cX9_startAnew 44 = .ok (.bipush 7, 2) := by decide +kernel
theorem dX9_startAnew_46 : decode cX9_startAnew 46 = .ok (.invokestatic 104, 3) := by decide +kernel
theorem dX9_startAnew_49 : decode cX9_startAnew 49 = .ok (.return_, 1) := by decide +kernel
theorem dX9_become_0 : decode cX9_become 0 = .ok (.aload_n 0, 1) := by decide +kernel
theorem dX9_become_1 : decode cX9_become 1 = .ok (.aload_n 1, 1) := by decide +kernel
theorem dX9_become_2 : decode cX9_become 2 = .ok (.invokevirtual 110, 3) := by decide +kernel
theorem dX9_become_5 : decode cX9_become 5 = .ok (.aload_n 1, 1) := by decide +kernel
theorem dX9_become_6 : decode cX9_become 6 = .ok (.getfield 62, 3) := by decide +kernel
theorem dX9_become_9 : decode cX9_become 9 = .ok (.iconst 0, 1) := by decide +kernel
theorem dX9_become_10 : decode cX9_become 10 = .ok (.aload_n 0, 1) := by decide +kernel
theorem dX9_become_11 : decode cX9_become 11 = .ok (.getfield 62, 3) := by decide +kernel
theorem dX9_become_14 : decode cX9_become 14 = .ok (.iconst 0, 1) := by decide +kernel
theorem dX9_become_15 : decode cX9_become 15 = .ok (.bipush 7, 2) := by decide +kernel
theorem dX9_become_17 : decode cX9_become 17 = .ok (.invokestatic 104, 3) := by decide +kernel
theorem dX9_become_20 : decode cX9_become 20 = .ok (.aload_n 1, 1) := by decide +kernel
theorem dX9_become_21 : decode cX9_become 21 = .ok (.getfield 65, 3) := by decide +kernel
theorem dX9_become_24 : decode cX9_become 24 = .ok (.iconst 0, 1) := by decide +kernel
theorem dX9_become_25 : decode cX9_become 25 = .ok (.aload_n 0, 1) := by decide +kernel
theorem dX9_become_26 : decode cX9_become 26 = .ok (.getfield 65, 3) := by decide +kernel
theorem dX9_become_29 : decode cX9_become 29 = .ok (.iconst 0, 1) := by decide +kernel
theorem dX9_become_30 : decode cX9_become 30 = .ok (.bipush 7, 2) := by decide +kernel
theorem dX9_become_32 : decode cX9_become 32 = .ok (.invokestatic 104, 3) := by decide +kernel
theorem dX9_become_35 : decode cX9_become 35 = .ok (.aload_n 1, 1) := by decide +kernel
theorem dX9_become_36 : decode cX9_become 36 = .ok (.getfield 68, 3) := by decide +kernel
theorem dX9_become_39 : decode cX9_become 39 = .ok (.iconst 0, 1) := by decide +kernel
theorem dX9_become_40 : decode cX9_become 40 = .ok (.aload_n 0, 1) := by decide +kernel
theorem dX9_become_41 : decode cX9_become 41 = .ok (.getfield 68, 3) := by decide +kernel
theorem dX9_become_44 : decode cX9_become 44 = .ok (.iconst 0, 1) := by decide +kernel
theorem dX9_become_45 : decode cX9_become 45 = .ok (.iconst 5, 1) := by decide +kernel
theorem dX9_become_46 : decode cX9_become 46 = .ok (.invokestatic 104, 3) := by decide +kernel
theorem dX9_become_49 : decode cX9_become 49 = .ok (.aload_n 0, 1) := by decide +kernel
theorem dX9_become_50 : decode cX9_become 50 = .ok (.aload_n 1, 1) := by decide +kernel
theorem dX9_become_51 : decode cX9_become 51 = .ok (.getfield 18, 3) := by decide +kernel
theorem dX9_become_54 : decode cX9_become 54 = .ok (.putfield 18, 3) := by decide +kernel
theorem dX9_become_57 : decode cX9_become 57 = .ok (.aload_n 1, 1) := by decide +kernel
theorem dX9_become_58 : decode cX9_become 58 = .ok (.getfield 71, 3) := by decide +kernel
theorem dX9_become_61 : decode cX9_become 61 = .ok (.iconst 0, 1) := by decide +kernel
theorem dX9_become_62 : decode cX9_become 62 = .ok (.aload_n 0, 1) := by decide +kernel
theorem dX9_become_63 : decode cX9_become 63 = .ok (.getfield 71, 3) := by decide +kernel
theorem dX9_become_66 : decode cX9_become 66 = .ok (.iconst 0, 1) := by decide +kernel
theorem dX9_become_67 : decode cX9_become 67 = .ok (.bipush 40, 2) := by decide +kernel
theorem dX9_become_69 : decode cX9_become 69 = .ok (.invokestatic 104, 3) := by decide +kernel
theorem dX9_become_72 : decode cX9_become 72 = .ok (.aload_n 1, 1) := by decide +kernel
theorem dX9_become_73 : decode cX9_become 73 = .ok (.getfield 74, 3) := by decide +kernel
theorem dX9_become_76 : decode cX9_become 76 = .ok (.iconst 0, 1) := by decide +kernel
theorem dX9_become_77 : decode cX9_become 77 = .ok (.aload_n 0, 1) := by decide +kernel
theorem dX9_become_78 : decode cX9_become 78 = .ok (.getfield 74, 3) := by decide +kernel
theorem dX9_become_81 : decode cX9_become 81 = .ok (.iconst 0, 1) := by decide +kernel
theorem dX9_become_82 : decode cX9_become 82 = .ok (.bipush 40, 2) := by decide +kernel
theorem dX9_become_84 : decode cX9_become 84 = .ok (.invokestatic 104, 3) := by decide +kernel
theorem dX9_become_87 : decode cX9_become 87 = .ok (.aload_n 1, 1) := by decide +kernel
theorem dX9_become_88 : decode cX9_become 88 = .ok (.getfield 77, 3) := by decide +kernel
theorem dX9_become_91 : decode cX9_become 91 = .ok (.iconst 0, 1) := by decide +kernel
theorem dX9_become_92 : decode cX9_become 92 = .ok (.aload_n 0, 1) := by decide +kernel
theorem dX9_become_93 : decode cX9_become 93 = .ok (.getfield 77, 3) := by decide +kernel
theorem dX9_become_96 : decode cX9_become 96 = .ok (.iconst 0, 1) := by decide +kernel
theorem dX9_become_97 : decode cX9_become 97 = .ok (.bipush 40, 2) := by decide +kernel
theorem dX9_become_99 : decode cX9_become 99 = .ok (.invokestatic 104, 3) := by decide +kernel
theorem dX9_become_102 : decode cX9_become 102 = .ok (.return_, 1) := by decide +kernel
theorem dX9_becomeAside_0 : decode cX9_becomeAside 0 = .ok (.aload_n 0, 1) := by decide +kernel
theorem dX9_becomeAside_1 : decode cX9_becomeAside 1 = .ok (.aload_n 1, 1) := by decide +kernel
theorem dX9_becomeAside_2 : decode cX9_becomeAside 2 = .ok (.getfield 9, 3) := by decide +kernel
theorem dX9_becomeAside_5 : decode cX9_becomeAside 5 = .ok (.putfield 9, 3) := by decide +kernel
theorem dX9_becomeAside_8 : decode cX9_becomeAside 8 = .ok (.aload_n 0, 1) := by decide +kernel
theorem dX9_becomeAside_9 : decode cX9_becomeAside 9 = .ok (.aload_n 1, 1) := by decide +kernel
theorem dX9_becomeAside_10 : decode cX9_becomeAside 10 = .ok (.getfield 15, 3) := by decide +kernel
theorem dX9_becomeAside_13 : decode cX9_becomeAside 13 = .ok (.putfield 15, 3) := by decide +kernel
theorem dX9_becomeAside_16 : decode cX9_becomeAside 16 = .ok (.aload_n 1, 1) := by decide +kernel
theorem dX9_becomeAside_17 : decode cX9_becomeAside 17 = .ok (.getfield 43, 3) := by decide +kernel
theorem dX9_becomeAside_20 : decode cX9_becomeAside 20 = .ok (.iconst 0, 1) := by decide +kernel
theorem dX9_becomeAside_21 : decode cX9_becomeAside 21 = .ok (.aload_n 0, 1) := by decide +kernel
theorem dX9_becomeAside_22 : decode cX9_becomeAside 22 = .ok (.getfield 43, 3) := by decide +kernel
theorem dX9_becomeAside_25 : decode cX9_becomeAside 25 = .ok (.iconst 0, 1) := by decide +kernel
theorem dX9_becomeAside_26 : decode cX9_becomeAside 26 = .ok (.bipush 7, 2) := by decide +kernel
theorem dX9_becomeAside_28 : decode cX9_becomeAside 28 = .ok (.invokestatic 104, 3) := by decide +kernel
theorem dX9_becomeAside_31 : decode cX9_becomeAside 31 = .ok (.aload_n 1, 1) := by decide +kernel
theorem dX9_becomeAside_32 : decode cX9_becomeAside 32 = .ok (.getfield 47, 3) := by decide +kernel
theorem dX9_becomeAside_35 : decode cX9_becomeAside 35 = .ok (.iconst 0, 1) := by decide +kernel
theorem dX9_becomeAside_36 : decode cX9_becomeAside 36 = .ok (.aload_n 0, 1) := by decide +kernel
theorem dX9_becomeAside_37 : decode cX9_becomeAside 37 = .ok (.getfield 47, 3) := by decide +kernel
theorem dX9_becomeAside_40 : decode cX9_becomeAside 40 = .ok (.iconst 0, 1) := by decide +kernel
theorem dX9_becomeAside_41 : decode cX9_becomeAside 41 = .ok (.bipush 7, 2) := by decide +kernel
theorem dX9_becomeAside_43 : decode cX9_becomeAside 43 = .ok (.invokestatic 104, 3) := by decide +kernel
theorem dX9_becomeAside_46 : decode cX9_becomeAside 46 = .ok (.aload_n 1, 1) := by decide +kernel
theorem dX9_becomeAside_47 : decode cX9_becomeAside 47 = .ok (.getfield 50, 3) := by decide +kernel
theorem dX9_becomeAside_50 : decode cX9_becomeAside 50 = .ok (.iconst 0, 1) := by decide +kernel
theorem dX9_becomeAside_51 : decode cX9_becomeAside 51 = .ok (.aload_n 0, 1) := by decide +kernel
theorem dX9_becomeAside_52 : decode cX9_becomeAside 52 = .ok (.getfield 50, 3) := by decide +kernel
theorem dX9_becomeAside_55 : decode cX9_becomeAside 55 = .ok (.iconst 0, 1) := by decide +kernel
theorem dX9_becomeAside_56 : decode cX9_becomeAside 56 = .ok (.bipush 7, 2) := by decide +kernel
theorem dX9_becomeAside_58 : decode cX9_becomeAside 58 = .ok (.invokestatic 104, 3) := by decide +kernel
theorem dX9_becomeAside_61 : decode cX9_becomeAside 61 = .ok (.aload_n 1, 1) := by decide +kernel
theorem dX9_becomeAside_62 : decode cX9_becomeAside 62 = .ok (.getfield 53, 3) := by decide +kernel
theorem dX9_becomeAside_65 : decode cX9_becomeAside 65 = .ok (.iconst 0, 1) := by decide +kernel
theorem dX9_becomeAside_66 : decode cX9_becomeAside 66 = .ok (.aload_n 0, 1) := by decide +kernel
theorem dX9_becomeAside_67 : decode cX9_becomeAside 67 = .ok (.getfield 53, 3) := by decide +kernel
theorem dX9_becomeAside_70 : decode cX9_becomeAside 70 = .ok (.iconst 0, 1) := by decide +kernel
theorem dX9_becomeAside_71 : decode cX9_becomeAside 71 = .ok (.bipush 7, 2) := by decide +kernel
theorem dX9_becomeAside_73 : decode cX9_becomeAside 73 = .ok (.invokestatic 104, 3) := by decide +kernel
theorem dX9_becomeAside_76 : decode cX9_becomeAside 76 = .ok (.aload_n 1, 1) := by decide +kernel
theorem dX9_becomeAside_77 : decode cX9_becomeAside 77 = .ok (.getfield 56, 3) := by decide +kernel
theorem dX9_becomeAside_80 : decode cX9_becomeAside 80 = .ok (.iconst 0, 1) := by decide +kernel
theorem dX9_becomeAside_81 : decode cX9_becomeAside 81 = .ok (.aload_n 0, 1) := by decide +kernel
theorem dX9_becomeAside_82 : decode cX9_becomeAside 82 = .ok (.getfield 56, 3) := by decide +kernel
theorem dX9_becomeAside_85 : decode cX9_becomeAside 85 = .ok (.iconst 0, 1) := by decide +kernel
theorem dX9_becomeAside_86 : decode cX9_becomeAside 86 = .ok (.bipush 7, 2) := by decide +kernel
theorem dX9_becomeAside_88 : decode cX9_becomeAside 88 = .ok (.invokestatic 104, 3) := by decide +kernel
theorem dX9_becomeAside_91 : decode cX9_becomeAside 91 = .ok (.aload_n 1, 1) := by decide +kernel
theorem dX9_becomeAside_92 : decode cX9_becomeAside 92 = .ok (.getfield 59, 3) := by decide +kernel
theorem dX9_becomeAside_95 : decode cX9_becomeAside 95 = .ok (.iconst 0, 1) := by decide +kernel
theorem dX9_becomeAside_96 : decode cX9_becomeAside 96 = .ok (.aload_n 0, 1) := by decide +kernel
theorem dX9_becomeAside_97 : decode cX9_becomeAside 97 = .ok (.getfield 59, 3) := by decide +kernel
theorem dX9_becomeAside_100 : decode cX9_becomeAside 100 = .ok (.iconst 0, 1) := by decide +kernel
theorem dX9_becomeAside_101 : decode cX9_becomeAside 101 = .ok (.iconst 5, 1) := by decide +kernel
theorem dX9_becomeAside_102 : decode cX9_becomeAside 102 = .ok (.invokestatic 104, 3) := by decide +kernel
theorem dX9_becomeAside_105 : decode cX9_becomeAside 105 = .ok (.return_, 1) := by decide +kernel
theorem dX9_perform_0 : decode cX9_perform 0 = .ok (.aload_n 0, 1) := by decide +kernel
theorem dX9_perform_1 : decode cX9_perform 1 = .ok (.getfield 18, 3) := by decide +kernel
theorem dX9_perform_4 : decode cX9_perform 4 = .ok (.bipush 40, 2) := by decide +kernel
theorem dX9_perform_6 : decode cX9_perform 6 = .ok (.if_icmp .ge 51, 3) := by decide +kernel
theorem dX9_perform_9 : decode cX9_perform 9 = .ok (.aload_n 0, 1) := by decide +kernel
theorem dX9_perform_10 : decode cX9_perform 10 = .ok (.getfield 71, 3) := by decide +kernel
theorem dX9_perform_13 : decode cX9_perform 13 = .ok (.aload_n 0, 1) := by decide +kernel
theorem dX9_perform_14 : decode cX9_perform 14 = .ok (.getfield 18, 3) := by decide +kernel
theorem dX9_perform_17 : decode cX9_perform 17 = .ok (.iload_n 1, 1) := by decide +kernel
theorem dX9_perform_18 : decode cX9_perform 18 = .ok (.iastore, 1) := by decide +kernel
theorem dX9_perform_19 : decode cX9_perform 19 = .ok (.aload_n 0, 1) := by decide +kernel
theorem dX9_perform_20 : decode cX9_perform 20 = .ok (.getfield 74, 3) := by decide +kernel
theorem dX9_perform_23 : decode cX9_perform 23 = .ok (.aload_n 0, 1) := by decide +kernel
theorem dX9_perform_24 : decode cX9_perform 24 = .ok (.getfield 18, 3) := by decide +kernel
theorem dX9_perform_27 : decode cX9_perform 27 = .ok (.iload_n 2, 1) := by decide +kernel
theorem dX9_perform_28 : decode cX9_perform 28 = .ok (.iastore, 1) := by decide +kernel
theorem dX9_perform_29 : decode cX9_perform 29 = .ok (.aload_n 0, 1) := by decide +kernel
theorem dX9_perform_30 : decode cX9_perform 30 = .ok (.getfield 77, 3) := by decide +kernel
theorem dX9_perform_33 : decode cX9_perform 33 = .ok (.aload_n 0, 1) := by decide +kernel
theorem dX9_perform_34 : decode cX9_perform 34 = .ok (.getfield 18, 3) := by decide +kernel
theorem dX9_perform_37 : decode cX9_perform 37 = .ok (.iload_n 3, 1) := by decide +kernel
theorem dX9_perform_38 : decode cX9_perform 38 = .ok (.iastore, 1) := by decide +kernel
theorem dX9_perform_39 : decode cX9_perform 39 = .ok (.aload_n 0, 1) := by decide +kernel
theorem dX9_perform_40 : decode cX9_perform 40 = .ok (.aload_n 0, 1) := by decide +kernel
theorem dX9_perform_41 : decode cX9_perform 41 = .ok (.getfield 18, 3) := by decide +kernel
theorem dX9_perform_44 : decode cX9_perform 44 = .ok (.invokevirtual 114, 3) := by decide +kernel
theorem dX9_perform_47 : decode cX9_perform 47 = .ok (.aload_n 0, 1) := by decide +kernel
theorem dX9_perform_48 : decode cX9_perform 48 = .ok (.dup, 1) := by decide +kernel
theorem dX9_perform_49 : decode cX9_perform 49 = .ok (.getfield 18, 3) := by decide +kernel
theorem dX9_perform_52 : decode cX9_perform 52 = .ok (.iconst 1, 1) := by decide +kernel
theorem dX9_perform_53 : decode cX9_perform 53 = .ok (.iadd, 1) := by decide +kernel
theorem dX9_perform_54 : decode cX9_perform 54 = .ok (.putfield 18, 3) := by decide +kernel
theorem dX9_perform_57 : decode cX9_perform 57 = .ok (.return_, 1) := by decide +kernel
theorem dX9_goBackTo_0 : decode cX9_goBackTo 0 = .ok (.aload_n 0, 1) := by decide +kernel
theorem dX9_goBackTo_1 : decode cX9_goBackTo 1 = .ok (.iconst 0, 1) := by decide +kernel
theorem dX9_goBackTo_2 : decode cX9_goBackTo 2 = .ok (.iload_n 1, 1) := by decide +kernel
theorem dX9_goBackTo_3 : decode cX9_goBackTo 3 = .ok (.aload_n 0, 1) := by decide +kernel
theorem dX9_goBackTo_4 : decode cX9_goBackTo 4 = .ok (.getfield 18, 3) := by decide +kernel
theorem dX9_goBackTo_7 : decode cX9_goBackTo 7 = .ok (.invokestatic 86, 3) := by decide +kernel
theorem dX9_goBackTo_10 : decode cX9_goBackTo 10 = .ok (.invokestatic 92, 3) := by decide +kernel
theorem dX9_goBackTo_13 : decode cX9_goBackTo 13 = .ok (.putfield 18, 3) := by decide +kernel
theorem dX9_goBackTo_16 : decode cX9_goBackTo 16 = .ok (.aload_n 0, 1) := by decide +kernel
theorem dX9_goBackTo_17 : decode cX9_goBackTo 17 = .ok (.invokevirtual 101, 3) := by decide +kernel
theorem dX9_goBackTo_20 : decode cX9_goBackTo 20 = .ok (.iconst 0, 1) := by decide +kernel
theorem dX9_goBackTo_21 : decode cX9_goBackTo 21 = .ok (.istore_n 2, 1) := by decide +kernel
theorem dX9_goBackTo_22 : decode cX9_goBackTo 22 = .ok (.iload_n 2, 1) := by decide +kernel
theorem dX9_goBackTo_23 : decode cX9_goBackTo 23 = .ok (.aload_n 0, 1) := by decide +kernel
theorem dX9_goBackTo_24 : decode cX9_goBackTo 24 = .ok (.getfield 18, 3) := by decide +kernel
theorem dX9_goBackTo_27 : decode cX9_goBackTo 27 = .ok (.if_icmp .ge 14, 3) := by decide +kernel
theorem dX9_goBackTo_30 : decode cX9_goBackTo 30 = .ok (.aload_n 0, 1) := by decide +kernel
theorem dX9_goBackTo_31 : decode cX9_goBackTo 31 = .ok (.iload_n 2, 1) := by decide +kernel
theorem dX9_goBackTo_32 : decode cX9_goBackTo 32 = .ok (.invokevirtual 114, 3) := by decide +kernel
theorem dX9_goBackTo_35 : decode cX9_goBackTo 35 = .ok (.iinc 2 1, 3) := by decide +kernel
theorem dX9_goBackTo_38 : decode cX9_goBackTo 38 = .ok (.goto (-16), 3) := by decide +kernel
theorem dX9_goBackTo_41 : decode cX9_goBackTo 41 = .ok (.return_, 1) := by decide +kernel
theorem dX9_carryOut_0 : decode cX9_carryOut 0 = .ok (.aload_n 0, 1) := by decide +kernel
theorem dX9_carryOut_1 : decode cX9_carryOut 1 = .ok (.getfield 74, 3) := by decide +kernel
theorem dX9_carryOut_4 : decode cX9_carryOut 4 = .ok (.iload_n 1, 1) := by decide +kernel
theorem dX9_carryOut_5 : decode cX9_carryOut 5 = .ok (.iaload, 1) := by decide +kernel
theorem dX9_carryOut_6 : decode cX9_carryOut 6 = .ok (.istore_n 2, 1) := by decide +kernel
theorem dX9_carryOut_7 : decode cX9_carryOut 7 = .ok (.aload_n 0, 1) := by decide +kernel
theorem dX9_carryOut_8 : decode cX9_carryOut 8 = .ok (.getfield 71, 3) := by decide +kernel
theorem dX9_carryOut_11 : decode cX9_carryOut 11 = .ok (.iload_n 1, 1) := by decide +kernel
theorem dX9_carryOut_12 : decode cX9_carryOut 12 = .ok (.iaload, 1) := by decide +kernel
theorem dX9_carryOut_13 : decode cX9_carryOut 13 = .ok (.tableswitch 90 1 4 #[31, 38, 65, 75], 31) := by decide +kernel
theorem dX9_carryOut_44 : decode cX9_carryOut 44 = .ok (.aload_n 0, 1) := by decide +kernel
theorem dX9_carryOut_45 : decode cX9_carryOut 45 = .ok (.invokevirtual 118, 3) := by decide +kernel
theorem dX9_carryOut_48 : decode cX9_carryOut 48 = .ok (.goto 55, 3) := by decide +kernel
theorem dX9_carryOut_51 : decode cX9_carryOut 51 = .ok (.aload_n 0, 1) := by decide +kernel
theorem dX9_carryOut_52 : decode cX9_carryOut 52 = .ok (.getfield 59, 3) := by decide +kernel
theorem dX9_carryOut_55 : decode cX9_carryOut 55 = .ok (.iload_n 2, 1) := by decide +kernel
theorem dX9_carryOut_56 : decode cX9_carryOut 56 = .ok (.bipush 9, 2) := by decide +kernel
theorem dX9_carryOut_58 : decode cX9_carryOut 58 = .ok (.aload_n 0, 1) := by decide +kernel
theorem dX9_carryOut_59 : decode cX9_carryOut 59 = .ok (.getfield 59, 3) := by decide +kernel
theorem dX9_carryOut_62 : decode cX9_carryOut 62 = .ok (.iload_n 2, 1) := by decide +kernel
theorem dX9_carryOut_63 : decode cX9_carryOut 63 = .ok (.iaload, 1) := by decide +kernel
theorem dX9_carryOut_64 : decode cX9_carryOut 64 = .ok (.aload_n 0, 1) := by decide +kernel
theorem dX9_carryOut_65 : decode cX9_carryOut 65 = .ok (.getfield 77, 3) := by decide +kernel
theorem dX9_carryOut_68 : decode cX9_carryOut 68 = .ok (.iload_n 1, 1) := by decide +kernel
theorem dX9_carryOut_69 : decode cX9_carryOut 69 = .ok (.iaload, 1) := by decide +kernel
theorem dX9_carryOut_70 : decode cX9_carryOut 70 = .ok (.iadd, 1) := by decide +kernel
theorem dX9_carryOut_71 : decode cX9_carryOut 71 = .ok (.invokestatic 86, 3) := by decide +kernel
theorem dX9_carryOut_74 : decode cX9_carryOut 74 = .ok (.iastore, 1) := by decide +kernel
theorem dX9_carryOut_75 : decode cX9_carryOut 75 = .ok (.goto 28, 3) := by decide +kernel
theorem dX9_carryOut_78 : decode cX9_carryOut 78 = .ok (.aload_n 0, 1) := by decide +kernel
theorem dX9_carryOut_79 : decode cX9_carryOut 79 = .ok (.getfield 59, 3) := by decide +kernel
theorem dX9_carryOut_82 : decode cX9_carryOut 82 = .ok (.iload_n 2, 1) := by decide +kernel
theorem dX9_carryOut_83 : decode cX9_carryOut 83 = .ok (.iconst 0, 1) := by decide +kernel
theorem dX9_carryOut_84 : decode cX9_carryOut 84 = .ok (.iastore, 1) := by decide +kernel
theorem dX9_carryOut_85 : decode cX9_carryOut 85 = .ok (.goto 18, 3) := by decide +kernel
theorem dX9_carryOut_88 : decode cX9_carryOut 88 = .ok (.aload_n 0, 1) := by decide +kernel
theorem dX9_carryOut_89 : decode cX9_carryOut 89 = .ok (.getfield 56, 3) := by decide +kernel
theorem dX9_carryOut_92 : decode cX9_carryOut 92 = .ok (.iload_n 2, 1) := by decide +kernel
theorem dX9_carryOut_93 : decode cX9_carryOut 93 = .ok (.aload_n 0, 1) := by decide +kernel
theorem dX9_carryOut_94 : decode cX9_carryOut 94 = .ok (.getfield 77, 3) := by decide +kernel
theorem dX9_carryOut_97 : decode cX9_carryOut 97 = .ok (.iload_n 1, 1) := by decide +kernel
theorem dX9_carryOut_98 : decode cX9_carryOut 98 = .ok (.iaload, 1) := by decide +kernel
theorem dX9_carryOut_99 : decode cX9_carryOut 99 = .ok (.iastore, 1) := by decide +kernel
theorem dX9_carryOut_100 : decode cX9_carryOut 100 = .ok (.goto 3, 3) := by decide +kernel
theorem dX9_carryOut_103 : decode cX9_carryOut 103 = .ok (.return_, 1) := by decide +kernel
theorem dX9_passDay_0 : decode cX9_passDay 0 = .ok (.iconst 0, 1) := by decide +kernel
theorem dX9_passDay_1 : decode cX9_passDay 1 = .ok (.istore_n 1, 1) := by decide +kernel
theorem dX9_passDay_2 : decode cX9_passDay 2 = .ok (.iload_n 1, 1) := by decide +kernel
theorem dX9_passDay_3 : decode cX9_passDay 3 = .ok (.aload_n 0, 1) := by decide +kernel
theorem dX9_passDay_4 : decode cX9_passDay 4 = .ok (.getfield 9, 3) := by decide +kernel
theorem dX9_passDay_7 : decode cX9_passDay 7 = .ok (.if_icmp .ge 38, 3) := by decide +kernel
theorem dX9_passDay_10 : decode cX9_passDay 10 = .ok (.aload_n 0, 1) := by decide +kernel
theorem dX9_passDay_11 : decode cX9_passDay 11 = .ok (.getfield 53, 3) := by decide +kernel
theorem dX9_passDay_14 : decode cX9_passDay 14 = .ok (.iload_n 1, 1) := by decide +kernel
theorem dX9_passDay_15 : decode cX9_passDay 15 = .ok (.aload_n 0, 1) := by decide +kernel
theorem dX9_passDay_16 : decode cX9_passDay 16 = .ok (.iload_n 1, 1) := by decide +kernel
theorem dX9_passDay_17 : decode cX9_passDay 17 = .ok (.invokevirtual 121, 3) := by decide +kernel
theorem dX9_passDay_20 : decode cX9_passDay 20 = .ok (.aload_n 0, 1) := by decide +kernel
theorem dX9_passDay_21 : decode cX9_passDay 21 = .ok (.getfield 53, 3) := by decide +kernel
theorem dX9_passDay_24 : decode cX9_passDay 24 = .ok (.iload_n 1, 1) := by decide +kernel
theorem dX9_passDay_25 : decode cX9_passDay 25 = .ok (.iaload, 1) := by decide +kernel
theorem dX9_passDay_26 : decode cX9_passDay 26 = .ok (.aload_n 0, 1) := by decide +kernel
theorem dX9_passDay_27 : decode cX9_passDay 27 = .ok (.iload_n 1, 1) := by decide +kernel
theorem dX9_passDay_28 : decode cX9_passDay 28 = .ok (.invokevirtual 125, 3) := by decide +kernel
theorem dX9_passDay_31 : decode cX9_passDay 31 = .ok (.aload_n 0, 1) := by decide +kernel
theorem dX9_passDay_32 : decode cX9_passDay 32 = .ok (.getfield 15, 3) := by decide +kernel
theorem dX9_passDay_35 : decode cX9_passDay 35 = .ok (.invokevirtual 129, 3) := by decide +kernel
theorem dX9_passDay_38 : decode cX9_passDay 38 = .ok (.iastore, 1) := by decide +kernel
theorem dX9_passDay_39 : decode cX9_passDay 39 = .ok (.iinc 1 1, 3) := by decide +kernel
theorem dX9_passDay_42 : decode cX9_passDay 42 = .ok (.goto (-40), 3) := by decide +kernel
theorem dX9_passDay_45 : decode cX9_passDay 45 = .ok (.aload_n 0, 1) := by decide +kernel
theorem dX9_passDay_46 : decode cX9_passDay 46 = .ok (.dup, 1) := by decide +kernel
theorem dX9_passDay_47 : decode cX9_passDay 47 = .ok (.getfield 15, 3) := by decide +kernel
theorem dX9_passDay_50 : decode cX9_passDay 50 = .ok (.iconst 1, 1) := by decide +kernel
theorem dX9_passDay_51 : decode cX9_passDay 51 = .ok (.iadd, 1) := by decide +kernel
theorem dX9_passDay_52 : decode cX9_passDay 52 = .ok (.putfield 15, 3) := by decide +kernel
theorem dX9_passDay_55 : decode cX9_passDay 55 = .ok (.return_, 1) := by decide +kernel
theorem dX9_moodOf_0 : decode cX9_moodOf 0 = .ok (.aload_n 0, 1) := by decide +kernel
theorem dX9_moodOf_1 : decode cX9_moodOf 1 = .ok (.iload_n 1, 1) := by decide +kernel
theorem dX9_moodOf_2 : decode cX9_moodOf 2 = .ok (.invokevirtual 133, 3) := by decide +kernel
theorem dX9_moodOf_5 : decode cX9_moodOf 5 = .ok (.ifCond .ne 5, 3) := by decide +kernel
theorem dX9_moodOf_8 : decode cX9_moodOf 8 = .ok (.iconst 0, 1) := by decide +kernel
theorem dX9_moodOf_9 : decode cX9_moodOf 9 = .ok (.ireturn, 1) := by decide +kernel
theorem dX9_moodOf_10 : decode cX9_moodOf 10 = .ok (.aload_n 0, 1) := by decide +kernel
theorem dX9_moodOf_11 : decode cX9_moodOf 11 = .ok (.iload_n 1, 1) := by decide +kernel
theorem dX9_moodOf_12 : decode cX9_moodOf 12 = .ok (.invokevirtual 121, 3) := by decide +kernel
theorem dX9_moodOf_15 : decode cX9_moodOf 15 = .ok (.invokevirtual 137, 3) := by decide +kernel
theorem dX9_moodOf_18 : decode cX9_moodOf 18 = .ok (.ifCond .ne 16, 3) := by decide +kernel
theorem dX9_moodOf_21 : decode cX9_moodOf 21 = .ok (.aload_n 0, 1) := by decide +kernel
theorem dX9_moodOf_22 : decode cX9_moodOf 22 = .ok (.aload_n 0, 1) := by decide +kernel
theorem dX9_moodOf_23 : decode cX9_moodOf 23 = .ok (.getfield 50, 3) := by decide +kernel
theorem dX9_moodOf_26 : decode cX9_moodOf 26 = .ok (.iload_n 1, 1) := by decide +kernel
theorem dX9_moodOf_27 : decode cX9_moodOf 27 = .ok (.iaload, 1) := by decide +kernel
theorem dX9_moodOf_28 : decode cX9_moodOf 28 = .ok (.invokevirtual 141, 3) := by decide +kernel
theorem dX9_moodOf_31 : decode cX9_moodOf 31 = .ok (.ifCond .eq 7, 3) := by decide +kernel
theorem dX9_moodOf_34 : decode cX9_moodOf 34 = .ok (.iconst 1, 1) := by decide +kernel
theorem dX9_moodOf_35 : decode cX9_moodOf 35 = .ok (.goto 4, 3) := by decide +kernel
theorem dX9_moodOf_38 : decode cX9_moodOf 38 = .ok (.iconst 2, 1) := by decide +kernel
theorem dX9_moodOf_39 : decode cX9_moodOf 39 = .ok (.ireturn, 1) := by decide +kernel
theorem dX9_facesFoe_0 : decode cX9_facesFoe 0 = .ok (.aload_n 0, 1) := by decide +kernel
theorem dX9_facesFoe_1 : decode cX9_facesFoe 1 = .ok (.iload_n 1, 1) := by decide +kernel
theorem dX9_facesFoe_2 : decode cX9_facesFoe 2 = .ok (.invokevirtual 133, 3) := by decide +kernel
theorem dX9_facesFoe_5 : decode cX9_facesFoe 5 = .ok (.ifCond .eq 20, 3) := by decide +kernel
theorem dX9_facesFoe_8 : decode cX9_facesFoe 8 = .ok (.aload_n 0, 1) := by decide +kernel
theorem dX9_facesFoe_9 : decode cX9_facesFoe 9 = .ok (.aload_n 0, 1) := by decide +kernel
theorem dX9_facesFoe_10 : decode cX9_facesFoe 10 = .ok (.getfield 50, 3) := by decide +kernel
theorem dX9_facesFoe_13 : decode cX9_facesFoe 13 = .ok (.iload_n 1, 1) := by decide +kernel
theorem dX9_facesFoe_14 : decode cX9_facesFoe 14 = .ok (.iaload, 1) := by decide +kernel
theorem dX9_facesFoe_15 : decode cX9_facesFoe 15 = .ok (.invokevirtual 141, 3) := by decide +kernel
theorem dX9_facesFoe_18 : decode cX9_facesFoe 18 = .ok (.ifCond .ne 7, 3) := by decide +kernel
theorem dX9_facesFoe_21 : decode cX9_facesFoe 21 = .ok (.iconst 1, 1) := by decide +kernel
theorem dX9_facesFoe_22 : decode cX9_facesFoe 22 = .ok (.goto 4, 3) := by decide +kernel
theorem dX9_facesFoe_25 : decode cX9_facesFoe 25 = .ok (.iconst 0, 1) := by decide +kernel
theorem dX9_facesFoe_26 : decode cX9_facesFoe 26 = .ok (.ireturn, 1) := by decide +kernel
theorem dX9_isHid_0 : decode cX9_isHid 0 = .ok (.aload_n 0, 1) := by decide +kernel
theorem dX9_isHid_1 : decode cX9_isHid 1 = .ok (.iload_n 1, 1) := by decide +kernel
theorem dX9_isHid_2 : decode cX9_isHid 2 = .ok (.invokevirtual 121, 3) := by decide +kernel
theorem dX9_isHid_5 : decode cX9_isHid 5 = .ok (.aload_n 0, 1) := by decide +kernel
theorem dX9_isHid_6 : decode cX9_isHid 6 = .ok (.getfield 47, 3) := by decide +kernel
theorem dX9_isHid_9 : decode cX9_isHid 9 = .ok (.iload_n 1, 1) := by decide +kernel
theorem dX9_isHid_10 : decode cX9_isHid 10 = .ok (.iaload, 1) := by decide +kernel
theorem dX9_isHid_11 : decode cX9_isHid 11 = .ok (.invokevirtual 144, 3) := by decide +kernel
theorem dX9_isHid_14 : decode cX9_isHid 14 = .ok (.aload_n 0, 1) := by decide +kernel
theorem dX9_isHid_15 : decode cX9_isHid 15 = .ok (.getfield 59, 3) := by decide +kernel
theorem dX9_isHid_18 : decode cX9_isHid 18 = .ok (.aload_n 0, 1) := by decide +kernel
theorem dX9_isHid_19 : decode cX9_isHid 19 = .ok (.getfield 56, 3) := by decide +kernel
theorem dX9_isHid_22 : decode cX9_isHid 22 = .ok (.iload_n 1, 1) := by decide +kernel
theorem dX9_isHid_23 : decode cX9_isHid 23 = .ok (.iaload, 1) := by decide +kernel
theorem dX9_isHid_24 : decode cX9_isHid 24 = .ok (.iaload, 1) := by decide +kernel
theorem dX9_isHid_25 : decode cX9_isHid 25 = .ok (.if_icmp .gt 7, 3) := by decide +kernel
theorem dX9_isHid_28 : decode cX9_isHid 28 = .ok (.iconst 1, 1) := by decide +kernel
theorem dX9_isHid_29 : decode cX9_isHid 29 = .ok (.goto 4, 3) := by decide +kernel
theorem dX9_isHid_32 : decode cX9_isHid 32 = .ok (.iconst 0, 1) := by decide +kernel
theorem dX9_isHid_33 : decode cX9_isHid 33 = .ok (.ireturn, 1) := by decide +kernel
theorem dX9_meetsFoe_0 : decode cX9_meetsFoe 0 = .ok (.aload_n 0, 1) := by decide +kernel
theorem dX9_meetsFoe_1 : decode cX9_meetsFoe 1 = .ok (.getfield 50, 3) := by decide +kernel
theorem dX9_meetsFoe_4 : decode cX9_meetsFoe 4 = .ok (.iload_n 1, 1) := by decide +kernel
theorem dX9_meetsFoe_5 : decode cX9_meetsFoe 5 = .ok (.iaload, 1) := by decide +kernel
theorem dX9_meetsFoe_6 : decode cX9_meetsFoe 6 = .ok (.istore_n 2, 1) := by decide +kernel
theorem dX9_meetsFoe_7 : decode cX9_meetsFoe 7 = .ok (.iload_n 2, 1) := by decide +kernel
theorem dX9_meetsFoe_8 : decode cX9_meetsFoe 8 = .ok (.iconst (-1), 1) := by decide +kernel
theorem dX9_meetsFoe_9 : decode cX9_meetsFoe 9 = .ok (.if_icmp .eq 18, 3) := by decide +kernel
theorem dX9_meetsFoe_12 : decode cX9_meetsFoe 12 = .ok (.aload_n 0, 1) := by decide +kernel
theorem dX9_meetsFoe_13 : decode cX9_meetsFoe 13 = .ok (.getfield 56, 3) := by decide +kernel
theorem dX9_meetsFoe_16 : decode cX9_meetsFoe 16 = .ok (.iload_n 2, 1) := by decide +kernel
theorem dX9_meetsFoe_17 : decode cX9_meetsFoe 17 = .ok (.iaload, 1) := by decide +kernel
theorem dX9_meetsFoe_18 : decode cX9_meetsFoe 18 = .ok (.aload_n 0, 1) := by decide +kernel
theorem dX9_meetsFoe_19 : decode cX9_meetsFoe 19 = .ok (.getfield 56, 3) := by decide +kernel
theorem dX9_meetsFoe_22 : decode cX9_meetsFoe 22 = .ok (.iload_n 1, 1) := by decide +kernel
theorem dX9_meetsFoe_23 : decode cX9_meetsFoe 23 = .ok (.iaload, 1) := by decide +kernel
theorem dX9_meetsFoe_24 : decode cX9_meetsFoe 24 = .ok (.if_icmp .eq 5, 3) := by decide +kernel
theorem dX9_meetsFoe_27 : decode cX9_meetsFoe 27 = .ok (.iconst 0, 1) := by decide +kernel
theorem dX9_meetsFoe_28 : decode cX9_meetsFoe 28 = .ok (.ireturn, 1) := by decide +kernel
theorem dX9_meetsFoe_29 : decode cX9_meetsFoe 29 = .ok (.iconst 0, 1) := by decide +kernel
theorem dX9_meetsFoe_30 : decode cX9_meetsFoe 30 = .ok (.istore_n 3, 1) := by decide +kernel
theorem dX9_meetsFoe_31 : decode cX9_meetsFoe 31 = .ok (.iconst 0, 1) := by decide +kernel
theorem dX9_meetsFoe_32 : decode cX9_meetsFoe 32 = .ok (.istore 4, 2) := by decide +kernel
theorem dX9_meetsFoe_34 : decode cX9_meetsFoe 34 = .ok (.iconst 0, 1) := by decide +kernel
theorem dX9_meetsFoe_35 : decode cX9_meetsFoe 35 = .ok (.istore 5, 2) := by decide +kernel
theorem dX9_meetsFoe_37 : decode cX9_meetsFoe 37 = .ok (.iload 5, 2) := by decide +kernel
theorem dX9_meetsFoe_39 : decode cX9_meetsFoe 39 = .ok (.aload_n 0, 1) := by decide +kernel
theorem dX9_meetsFoe_40 : decode cX9_meetsFoe 40 = .ok (.getfield 9, 3) := by decide +kernel
theorem dX9_meetsFoe_43 : decode cX9_meetsFoe 43 = .ok (.if_icmp .ge 65, 3) := by decide +kernel
theorem dX9_meetsFoe_46 : decode cX9_meetsFoe 46 = .ok (.aload_n 0, 1) := by decide +kernel
theorem dX9_meetsFoe_47 : decode cX9_meetsFoe 47 = .ok (.getfield 56, 3) := by decide +kernel
theorem dX9_meetsFoe_50 : decode cX9_meetsFoe 50 = .ok (.iload 5, 2) := by decide +kernel
theorem dX9_meetsFoe_52 : decode cX9_meetsFoe 52 = .ok (.iaload, 1) := by decide +kernel
theorem dX9_meetsFoe_53 : decode cX9_meetsFoe 53 = .ok (.aload_n 0, 1) := by decide +kernel
theorem dX9_meetsFoe_54 : decode cX9_meetsFoe 54 = .ok (.getfield 56, 3) := by decide +kernel
theorem dX9_meetsFoe_57 : decode cX9_meetsFoe 57 = .ok (.iload_n 1, 1) := by decide +kernel
theorem dX9_meetsFoe_58 : decode cX9_meetsFoe 58 = .ok (.iaload, 1) := by decide +kernel
theorem dX9_meetsFoe_59 : decode cX9_meetsFoe 59 = .ok (.if_icmp .ne 43, 3) := by decide +kernel
theorem dX9_meetsFoe_62 : decode cX9_meetsFoe 62 = .ok (.iload 5, 2) := by decide +kernel
theorem dX9_meetsFoe_64 : decode cX9_meetsFoe 64 = .ok (.iload_n 1, 1) := by decide +kernel
theorem dX9_meetsFoe_65 : decode cX9_meetsFoe 65 = .ok (.if_icmp .eq 37, 3) := by decide +kernel
theorem dX9_meetsFoe_68 : decode cX9_meetsFoe 68 = .ok (.iload 5, 2) := by decide +kernel
theorem dX9_meetsFoe_70 : decode cX9_meetsFoe 70 = .ok (.iload_n 2, 1) := by decide +kernel
theorem dX9_meetsFoe_71 : decode cX9_meetsFoe 71 = .ok (.if_icmp .eq 31, 3) := by decide +kernel
theorem dX9_meetsFoe_74 : decode cX9_meetsFoe 74 = .ok (.iload 5, 2) := by decide +kernel
theorem dX9_meetsFoe_76 : decode cX9_meetsFoe 76 = .ok (.iload_n 1, 1) := by decide +kernel
theorem dX9_meetsFoe_77 : decode cX9_meetsFoe 77 = .ok (.iload_n 2, 1) := by decide +kernel
theorem dX9_meetsFoe_78 : decode cX9_meetsFoe 78 = .ok (.invokestatic 86, 3) := by decide +kernel
theorem dX9_meetsFoe_81 : decode cX9_meetsFoe 81 = .ok (.if_icmp .le 18, 3) := by decide +kernel
theorem dX9_meetsFoe_84 : decode cX9_meetsFoe 84 = .ok (.iload 5, 2) := by decide +kernel
theorem dX9_meetsFoe_86 : decode cX9_meetsFoe 86 = .ok (.iload_n 1, 1) := by decide +kernel
theorem dX9_meetsFoe_87 : decode cX9_meetsFoe 87 = .ok (.iload_n 2, 1) := by decide +kernel
theorem dX9_meetsFoe_88 : decode cX9_meetsFoe 88 = .ok (.invokestatic 92, 3) := by decide +kernel
theorem dX9_meetsFoe_91 : decode cX9_meetsFoe 91 = .ok (.if_icmp .ge 8, 3) := by decide +kernel
theorem dX9_meetsFoe_94 : decode cX9_meetsFoe 94 = .ok (.iconst 1, 1) := by decide +kernel
theorem dX9_meetsFoe_95 : decode cX9_meetsFoe 95 = .ok (.istore_n 3, 1) := by decide +kernel
theorem dX9_meetsFoe_96 : decode cX9_meetsFoe 96 = .ok (.goto 6, 3) := by decide +kernel
theorem dX9_meetsFoe_99 : decode cX9_meetsFoe 99 = .ok (.iconst 1, 1) := by decide +kernel
theorem dX9_meetsFoe_100 : decode cX9_meetsFoe 100 = .ok (.istore 4, 2) := by decide +kernel
theorem dX9_meetsFoe_102 : decode cX9_meetsFoe 102 = .ok (.iinc 5 1, 3) := by decide +kernel
theorem dX9_meetsFoe_105 : decode cX9_meetsFoe 105 = .ok (.goto (-68), 3) := by decide +kernel
theorem dX9_meetsFoe_108 : decode cX9_meetsFoe 108 = .ok (.iload_n 3, 1) := by decide +kernel
theorem dX9_meetsFoe_109 : decode cX9_meetsFoe 109 = .ok (.ifCond .eq 8, 3) := by decide +kernel
theorem dX9_meetsFoe_112 : decode cX9_meetsFoe 112 = .ok (.iload 4, 2) := by decide +kernel
theorem dX9_meetsFoe_114 : decode cX9_meetsFoe 114 = .ok (.ifCond .ne 7, 3) := by decide +kernel
theorem dX9_meetsFoe_117 : decode cX9_meetsFoe 117 = .ok (.iconst 1, 1) := by decide +kernel
theorem dX9_meetsFoe_118 : decode cX9_meetsFoe 118 = .ok (.goto 4, 3) := by decide +kernel
theorem dX9_meetsFoe_121 : decode cX9_meetsFoe 121 = .ok (.iconst 0, 1) := by decide +kernel
theorem dX9_meetsFoe_122 : decode cX9_meetsFoe 122 = .ok (.ireturn, 1) := by decide +kernel
theorem dX9_factOf_0 : decode cX9_factOf 0 = .ok (.iload_n 2, 1) := by decide +kernel
theorem dX9_factOf_1 : decode cX9_factOf 1 = .ok (.tableswitch 88 0 5 #[39, 46, 53, 60, 67, 74], 39) := by decide +kernel
theorem dX9_factOf_40 : decode cX9_factOf 40 = .ok (.aload_n 0, 1) := by decide +kernel
theorem dX9_factOf_41 : decode cX9_factOf 41 = .ok (.getfield 43, 3) := by decide +kernel
theorem dX9_factOf_44 : decode cX9_factOf 44 = .ok (.iload_n 1, 1) := by decide +kernel
theorem dX9_factOf_45 : decode cX9_factOf 45 = .ok (.iaload, 1) := by decide +kernel
theorem dX9_factOf_46 : decode cX9_factOf 46 = .ok (.ireturn, 1) := by decide +kernel
theorem dX9_factOf_47 : decode cX9_factOf 47 = .ok (.aload_n 0, 1) := by decide +kernel
theorem dX9_factOf_48 : decode cX9_factOf 48 = .ok (.getfield 47, 3) := by decide +kernel
theorem dX9_factOf_51 : decode cX9_factOf 51 = .ok (.iload_n 1, 1) := by decide +kernel
theorem dX9_factOf_52 : decode cX9_factOf 52 = .ok (.iaload, 1) := by decide +kernel
theorem dX9_factOf_53 : decode cX9_factOf 53 = .ok (.ireturn, 1) := by decide +kernel
theorem dX9_factOf_54 : decode cX9_factOf 54 = .ok (.aload_n 0, 1) := by decide +kernel
theorem dX9_factOf_55 : decode cX9_factOf 55 = .ok (.getfield 50, 3) := by decide +kernel
theorem dX9_factOf_58 : decode cX9_factOf 58 = .ok (.iload_n 1, 1) := by decide +kernel
theorem dX9_factOf_59 : decode cX9_factOf 59 = .ok (.iaload, 1) := by decide +kernel
theorem dX9_factOf_60 : decode cX9_factOf 60 = .ok (.ireturn, 1) := by decide +kernel
theorem dX9_factOf_61 : decode cX9_factOf 61 = .ok (.aload_n 0, 1) := by decide +kernel
theorem dX9_factOf_62 : decode cX9_factOf 62 = .ok (.getfield 53, 3) := by decide +kernel
theorem dX9_factOf_65 : decode cX9_factOf 65 = .ok (.iload_n 1, 1) := by decide +kernel
theorem dX9_factOf_66 : decode cX9_factOf 66 = .ok (.iaload, 1) := by decide +kernel
theorem dX9_factOf_67 : decode cX9_factOf 67 = .ok (.ireturn, 1) := by decide +kernel
theorem dX9_factOf_68 : decode cX9_factOf 68 = .ok (.aload_n 0, 1) := by decide +kernel
theorem dX9_factOf_69 : decode cX9_factOf 69 = .ok (.getfield 56, 3) := by decide +kernel
theorem dX9_factOf_72 : decode cX9_factOf 72 = .ok (.iload_n 1, 1) := by decide +kernel
theorem dX9_factOf_73 : decode cX9_factOf 73 = .ok (.iaload, 1) := by decide +kernel
theorem dX9_factOf_74 : decode cX9_factOf 74 = .ok (.ireturn, 1) := by decide +kernel
theorem dX9_factOf_75 : decode cX9_factOf 75 = .ok (.aload_n 0, 1) := by decide +kernel
theorem dX9_factOf_76 : decode cX9_factOf 76 = .ok (.iload_n 1, 1) := by decide +kernel
theorem dX9_factOf_77 : decode cX9_factOf 77 = .ok (.invokevirtual 141, 3) := by decide +kernel
theorem dX9_factOf_80 : decode cX9_factOf 80 = .ok (.ifCond .eq 7, 3) := by decide +kernel
theorem dX9_factOf_83 : decode cX9_factOf 83 = .ok (.iconst 1, 1) := by decide +kernel
theorem dX9_factOf_84 : decode cX9_factOf 84 = .ok (.goto 4, 3) := by decide +kernel
theorem dX9_factOf_87 : decode cX9_factOf 87 = .ok (.iconst 0, 1) := by decide +kernel
theorem dX9_factOf_88 : decode cX9_factOf 88 = .ok (.ireturn, 1) := by decide +kernel
theorem dX9_factOf_89 : decode cX9_factOf 89 = .ok (.aload_n 0, 1) := by decide +kernel
theorem dX9_factOf_90 : decode cX9_factOf 90 = .ok (.iload_n 1, 1) := by decide +kernel
theorem dX9_factOf_91 : decode cX9_factOf 91 = .ok (.invokevirtual 133, 3) := by decide +kernel
theorem dX9_factOf_94 : decode cX9_factOf 94 = .ok (.ifCond .eq 7, 3) := by decide +kernel
theorem dX9_factOf_97 : decode cX9_factOf 97 = .ok (.iconst 1, 1) := by decide +kernel
theorem dX9_factOf_98 : decode cX9_factOf 98 = .ok (.goto 4, 3) := by decide +kernel
theorem dX9_factOf_101 : decode cX9_factOf 101 = .ok (.iconst 0, 1) := by decide +kernel
theorem dX9_factOf_102 : decode cX9_factOf 102 = .ok (.ireturn, 1) := by decide +kernel
theorem dX9_crowdIn_0 : decode cX9_crowdIn 0 = .ok (.iconst 0, 1) := by decide +kernel
theorem dX9_crowdIn_1 : decode cX9_crowdIn 1 = .ok (.istore_n 2, 1) := by decide +kernel
theorem dX9_crowdIn_2 : decode cX9_crowdIn 2 = .ok (.iconst 0, 1) := by decide +kernel
theorem dX9_crowdIn_3 : decode cX9_crowdIn 3 = .ok (.istore_n 3, 1) := by decide +kernel
theorem dX9_crowdIn_4 : decode cX9_crowdIn 4 = .ok (.iload_n 3, 1) := by decide +kernel
theorem dX9_crowdIn_5 : decode cX9_crowdIn 5 = .ok (.aload_n 0, 1) := by decide +kernel
theorem dX9_crowdIn_6 : decode cX9_crowdIn 6 = .ok (.getfield 9, 3) := by decide +kernel
theorem dX9_crowdIn_9 : decode cX9_crowdIn 9 = .ok (.if_icmp .ge 22, 3) := by decide +kernel
theorem dX9_crowdIn_12 : decode cX9_crowdIn 12 = .ok (.aload_n 0, 1) := by decide +kernel
theorem dX9_crowdIn_13 : decode cX9_crowdIn 13 = .ok (.getfield 56, 3) := by decide +kernel
theorem dX9_crowdIn_16 : decode cX9_crowdIn 16 = .ok (.iload_n 3, 1) := by decide +kernel
theorem dX9_crowdIn_17 : decode cX9_crowdIn 17 = .ok (.iaload, 1) := by decide +kernel
theorem dX9_crowdIn_18 : decode cX9_crowdIn 18 = .ok (.iload_n 1, 1) := by decide +kernel
theorem dX9_crowdIn_19 : decode cX9_crowdIn 19 = .ok (.if_icmp .ne 6, 3) := by decide +kernel
theorem dX9_crowdIn_22 : decode cX9_crowdIn 22 = .ok (.iinc 2 1, 3) := by decide +kernel
theorem dX9_crowdIn_25 : decode cX9_crowdIn 25 = .ok (.iinc 3 1, 3) := by decide +kernel
theorem dX9_crowdIn_28 : decode cX9_crowdIn 28 = .ok (.goto (-24), 3) := by decide +kernel
theorem dX9_crowdIn_31 : decode cX9_crowdIn 31 = .ok (.iload_n 2, 1) := by decide +kernel
theorem dX9_crowdIn_32 : decode cX9_crowdIn 32 = .ok (.ireturn, 1) := by decide +kernel
theorem dX9_totalGrudge_0 : decode cX9_totalGrudge 0 = .ok (.iconst 0, 1) := by decide +kernel
theorem dX9_totalGrudge_1 : decode cX9_totalGrudge 1 = .ok (.istore_n 1, 1) := by decide +kernel
theorem dX9_totalGrudge_2 : decode cX9_totalGrudge 2 = .ok (.iconst 0, 1) := by decide +kernel
theorem dX9_totalGrudge_3 : decode cX9_totalGrudge 3 = .ok (.istore_n 2, 1) := by decide +kernel
theorem dX9_totalGrudge_4 : decode cX9_totalGrudge 4 = .ok (.iload_n 2, 1) := by decide +kernel
theorem dX9_totalGrudge_5 : decode cX9_totalGrudge 5 = .ok (.aload_n 0, 1) := by decide +kernel
theorem dX9_totalGrudge_6 : decode cX9_totalGrudge 6 = .ok (.getfield 9, 3) := by decide +kernel
theorem dX9_totalGrudge_9 : decode cX9_totalGrudge 9 = .ok (.if_icmp .ge 18, 3) := by decide +kernel
theorem dX9_totalGrudge_12 : decode cX9_totalGrudge 12 = .ok (.iload_n 1, 1) := by decide +kernel
theorem dX9_totalGrudge_13 : decode cX9_totalGrudge 13 = .ok (.aload_n 0, 1) := by decide +kernel
theorem dX9_totalGrudge_14 : decode cX9_totalGrudge 14 = .ok (.getfield 53, 3) := by decide +kernel
theorem dX9_totalGrudge_17 : decode cX9_totalGrudge 17 = .ok (.iload_n 2, 1) := by decide +kernel
theorem dX9_totalGrudge_18 : decode cX9_totalGrudge 18 = .ok (.iaload, 1) := by decide +kernel
theorem dX9_totalGrudge_19 : decode cX9_totalGrudge 19 = .ok (.iadd, 1) := by decide +kernel
theorem dX9_totalGrudge_20 : decode cX9_totalGrudge 20 = .ok (.istore_n 1, 1) := by decide +kernel
theorem dX9_totalGrudge_21 : decode cX9_totalGrudge 21 = .ok (.iinc 2 1, 3) := by decide +kernel
theorem dX9_totalGrudge_24 : decode cX9_totalGrudge 24 = .ok (.goto (-20), 3) := by decide +kernel
theorem dX9_totalGrudge_27 : decode cX9_totalGrudge 27 = .ok (.iload_n 1, 1) := by decide +kernel
theorem dX9_totalGrudge_28 : decode cX9_totalGrudge 28 = .ok (.ireturn, 1) := by decide +kernel
theorem dX9_totalDeep_0 : decode cX9_totalDeep 0 = .ok (.iconst 0, 1) := by decide +kernel
theorem dX9_totalDeep_1 : decode cX9_totalDeep 1 = .ok (.istore_n 1, 1) := by decide +kernel
theorem dX9_totalDeep_2 : decode cX9_totalDeep 2 = .ok (.iconst 0, 1) := by decide +kernel
theorem dX9_totalDeep_3 : decode cX9_totalDeep 3 = .ok (.istore_n 2, 1) := by decide +kernel
theorem dX9_totalDeep_4 : decode cX9_totalDeep 4 = .ok (.iload_n 2, 1) := by decide +kernel
theorem dX9_totalDeep_5 : decode cX9_totalDeep 5 = .ok (.iconst 5, 1) := by decide +kernel
theorem dX9_totalDeep_6 : decode cX9_totalDeep 6 = .ok (.if_icmp .ge 18, 3) := by decide +kernel
theorem dX9_totalDeep_9 : decode cX9_totalDeep 9 = .ok (.iload_n 1, 1) := by decide +kernel
theorem dX9_totalDeep_10 : decode cX9_totalDeep 10 = .ok (.aload_n 0, 1) := by decide +kernel
theorem dX9_totalDeep_11 : decode cX9_totalDeep 11 = .ok (.getfield 59, 3) := by decide +kernel
theorem dX9_totalDeep_14 : decode cX9_totalDeep 14 = .ok (.iload_n 2, 1) := by decide +kernel
theorem dX9_totalDeep_15 : decode cX9_totalDeep 15 = .ok (.iaload, 1) := by decide +kernel
theorem dX9_totalDeep_16 : decode cX9_totalDeep 16 = .ok (.iadd, 1) := by decide +kernel
theorem dX9_totalDeep_17 : decode cX9_totalDeep 17 = .ok (.istore_n 1, 1) := by decide +kernel
theorem dX9_totalDeep_18 : decode cX9_totalDeep 18 = .ok (.iinc 2 1, 3) := by decide +kernel
theorem dX9_totalDeep_21 : decode cX9_totalDeep 21 = .ok (.goto (-17), 3) := by decide +kernel
theorem dX9_totalDeep_24 : decode cX9_totalDeep 24 = .ok (.iload_n 1, 1) := by decide +kernel
theorem dX9_totalDeep_25 : decode cX9_totalDeep 25 = .ok (.ireturn, 1) := by decide +kernel
theorem dX9_whoIsHid_0 : decode cX9_whoIsHid 0 = .ok (.iconst 0, 1) := by decide +kernel
theorem dX9_whoIsHid_1 : decode cX9_whoIsHid 1 = .ok (.istore_n 1, 1) := by decide +kernel
theorem dX9_whoIsHid_2 : decode cX9_whoIsHid 2 = .ok (.iconst 0, 1) := by decide +kernel
theorem dX9_whoIsHid_3 : decode cX9_whoIsHid 3 = .ok (.istore_n 2, 1) := by decide +kernel
theorem dX9_whoIsHid_4 : decode cX9_whoIsHid 4 = .ok (.iload_n 2, 1) := by decide +kernel
theorem dX9_whoIsHid_5 : decode cX9_whoIsHid 5 = .ok (.aload_n 0, 1) := by decide +kernel
theorem dX9_whoIsHid_6 : decode cX9_whoIsHid 6 = .ok (.getfield 9, 3) := by decide +kernel
theorem dX9_whoIsHid_9 : decode cX9_whoIsHid 9 = .ok (.if_icmp .ge 23, 3) := by decide +kernel
theorem dX9_whoIsHid_12 : decode cX9_whoIsHid 12 = .ok (.aload_n 0, 1) := by decide +kernel
theorem dX9_whoIsHid_13 : decode cX9_whoIsHid 13 = .ok (.iload_n 2, 1) := by decide +kernel
theorem dX9_whoIsHid_14 : decode cX9_whoIsHid 14 = .ok (.invokevirtual 141, 3) := by decide +kernel
theorem dX9_whoIsHid_17 : decode cX9_whoIsHid 17 = .ok (.ifCond .eq 9, 3) := by decide +kernel
theorem dX9_whoIsHid_20 : decode cX9_whoIsHid 20 = .ok (.iload_n 1, 1) := by decide +kernel
theorem dX9_whoIsHid_21 : decode cX9_whoIsHid 21 = .ok (.iconst 1, 1) := by decide +kernel
theorem dX9_whoIsHid_22 : decode cX9_whoIsHid 22 = .ok (.iload_n 2, 1) := by decide +kernel
theorem dX9_whoIsHid_23 : decode cX9_whoIsHid 23 = .ok (.ishl, 1) := by decide +kernel
theorem dX9_whoIsHid_24 : decode cX9_whoIsHid 24 = .ok (.ior, 1) := by decide +kernel
theorem dX9_whoIsHid_25 : decode cX9_whoIsHid 25 = .ok (.istore_n 1, 1) := by decide +kernel
theorem dX9_whoIsHid_26 : decode cX9_whoIsHid 26 = .ok (.iinc 2 1, 3) := by decide +kernel
theorem dX9_whoIsHid_29 : decode cX9_whoIsHid 29 = .ok (.goto (-25), 3) := by decide +kernel
theorem dX9_whoIsHid_32 : decode cX9_whoIsHid 32 = .ok (.iload_n 1, 1) := by decide +kernel
theorem dX9_whoIsHid_33 : decode cX9_whoIsHid 33 = .ok (.ireturn, 1) := by decide +kernel
theorem dX9_whoIsAtPeace_0 : decode cX9_whoIsAtPeace 0 = .ok (.iconst 0, 1) := by decide +kernel
theorem dX9_whoIsAtPeace_1 : decode cX9_whoIsAtPeace 1 = .ok (.istore_n 1, 1) := by decide +kernel
theorem dX9_whoIsAtPeace_2 : decode cX9_whoIsAtPeace 2 = .ok (.iconst 0, 1) := by decide +kernel
theorem dX9_whoIsAtPeace_3 : decode cX9_whoIsAtPeace 3 = .ok (.istore_n 2, 1) := by decide +kernel
theorem dX9_whoIsAtPeace_4 : decode cX9_whoIsAtPeace 4 = .ok (.iload_n 2, 1) := by decide +kernel
theorem dX9_whoIsAtPeace_5 : decode cX9_whoIsAtPeace 5 = .ok (.aload_n 0, 1) := by decide +kernel
theorem dX9_whoIsAtPeace_6 : decode cX9_whoIsAtPeace 6 = .ok (.getfield 9, 3) := by decide +kernel
theorem dX9_whoIsAtPeace_9 : decode cX9_whoIsAtPeace 9 = .ok (.if_icmp .ge 24, 3) := by decide +kernel
theorem dX9_whoIsAtPeace_12 : decode cX9_whoIsAtPeace 12 = .ok (.aload_n 0, 1) := by decide +kernel
theorem dX9_whoIsAtPeace_13 : decode cX9_whoIsAtPeace 13 = .ok (.getfield 53, 3) := by decide +kernel
theorem dX9_whoIsAtPeace_16 : decode cX9_whoIsAtPeace 16 = .ok (.iload_n 2, 1) := by decide +kernel
theorem dX9_whoIsAtPeace_17 : decode cX9_whoIsAtPeace 17 = .ok (.iaload, 1) := by decide +kernel
theorem dX9_whoIsAtPeace_18 : decode cX9_whoIsAtPeace 18 = .ok (.ifCond .ne 9, 3) := by decide +kernel
theorem dX9_whoIsAtPeace_21 : decode cX9_whoIsAtPeace 21 = .ok (.iload_n 1, 1) := by decide +kernel
theorem dX9_whoIsAtPeace_22 : decode cX9_whoIsAtPeace 22 = .ok (.iconst 1, 1) := by decide +kernel
theorem dX9_whoIsAtPeace_23 : decode cX9_whoIsAtPeace 23 = .ok (.iload_n 2, 1) := by decide +kernel
theorem dX9_whoIsAtPeace_24 : decode cX9_whoIsAtPeace 24 = .ok (.ishl, 1) := by decide +kernel
theorem dX9_whoIsAtPeace_25 : decode cX9_whoIsAtPeace 25 = .ok (.ior, 1) := by decide +kernel
theorem dX9_whoIsAtPeace_26 : decode cX9_whoIsAtPeace 26 = .ok (.istore_n 1, 1) := by decide +kernel
theorem dX9_whoIsAtPeace_27 : decode cX9_whoIsAtPeace 27 = .ok (.iinc 2 1, 3) := by decide +kernel
theorem dX9_whoIsAtPeace_30 : decode cX9_whoIsAtPeace 30 = .ok (.goto (-26), 3) := by decide +kernel
theorem dX9_whoIsAtPeace_33 : decode cX9_whoIsAtPeace 33 = .ok (.iload_n 1, 1) := by decide +kernel
theorem dX9_whoIsAtPeace_34 : decode cX9_whoIsAtPeace 34 = .ok (.ireturn, 1) := by decide +kernel
