theorem dX11_init_0 : decode cX11_init 0 = .ok (.aload_n 0, 1) := by decide +kernel
theorem dX11_init_1 : decode cX11_init 1 = .ok (.invokespecial 1, 3) := by decide +kernel
theorem dX11_init_4 : decode cX11_init 4 = .ok (.aload_n 0, 1) := by decide +kernel
theorem dX11_init_5 : decode cX11_init 5 = .ok (.lconst 1, 1) := by decide +kernel
theorem dX11_init_6 : decode cX11_init 6 = .ok (.putfield 7, 3) := by decide +kernel
theorem dX11_init_9 : decode cX11_init 9 = .ok (.aload_n 0, 1) := by decide +kernel
theorem dX11_init_10 : decode cX11_init 10 = .ok (.bipush 6, 2) := by decide +kernel
theorem dX11_init_12 : decode cX11_init 12 = .ok (.newarray .int, 2) := by decide +kernel
theorem dX11_init_14 : decode cX11_init 14 = .ok (.putfield 13, 3) := by decide +kernel
theorem dX11_init_17 : decode cX11_init 17 = .ok (.aload_n 0, 1) := by decide +kernel
theorem dX11_init_18 : decode cX11_init 18 = .ok (.bipush 6, 2) := by decide +kernel
theorem dX11_init_20 : decode cX11_init 20 = .ok (.newarray .int, 2) := by decide +kernel
theorem dX11_init_22 : decode cX11_init 22 = .ok (.putfield 17, 3) := by decide +kernel
theorem dX11_init_25 : decode cX11_init 25 = .ok (.aload_n 0, 1) := by decide +kernel
theorem dX11_init_26 : decode cX11_init 26 = .ok (.sipush 240, 3) := by decide +kernel
theorem dX11_init_29 : decode cX11_init 29 = .ok (.newarray .int, 2) := by decide +kernel
theorem dX11_init_31 : decode cX11_init 31 = .ok (.putfield 20, 3) := by decide +kernel
theorem dX11_init_34 : decode cX11_init 34 = .ok (.aload_n 0, 1) := by decide +kernel
theorem dX11_init_35 : decode cX11_init 35 = .ok (.bipush 40, 2) := by decide +kernel
theorem dX11_init_37 : decode cX11_init 37 = .ok (.newarray .int, 2) := by decide +kernel
theorem dX11_init_39 : decode cX11_init 39 = .ok (.putfield 23, 3) := by decide +kernel
theorem dX11_init_42 : decode cX11_init 42 = .ok (.aload_n 0, 1) := by decide +kernel
theorem dX11_init_43 : decode cX11_init 43 = .ok (.iconst 4, 1) := by decide +kernel
theorem dX11_init_44 : decode cX11_init 44 = .ok (.newarray .int, 2) := by decide +kernel
theorem dX11_init_46 : decode cX11_init 46 = .ok (.putfield 26, 3) := by decide +kernel
theorem dX11_init_49 : decode cX11_init 49 = .ok (.aload_n 0, 1) := by decide +kernel
theorem dX11_init_50 : decode cX11_init 50 = .ok (.sipush 480, 3) := by decide +kernel
theorem dX11_init_53 : decode cX11_init 53 = .ok (.newarray .byte, 2) := by decide +kernel
theorem dX11_init_55 : decode cX11_init 55 = .ok (.putfield 29, 3) := by decide +kernel
theorem dX11_init_58 : decode cX11_init 58 = .ok (.aload_n 0, 1) := by decide +kernel
theorem dX11_init_59 : decode cX11_init 59 = .ok (.iconst 5, 1) := by decide +kernel
theorem dX11_init_60 : decode cX11_init 60 = .ok (.newarray .int, 2) := by decide +kernel
theorem dX11_init_62 : decode cX11_init 62 = .ok (.putfield 33, 3) := by decide +kernel
theorem dX11_init_65 : decode cX11_init 65 = .ok (.aload_n 0, 1) := by decide +kernel
theorem dX11_init_66 : decode cX11_init 66 = .ok (.bipush 35, 2) := by decide +kernel
theorem dX11_init_68 : decode cX11_init 68 = .ok (.newarray .int, 2) := by decide +kernel
theorem dX11_init_70 : decode cX11_init 70 = .ok (.putfield 36, 3) := by decide +kernel
theorem dX11_init_73 : decode cX11_init 73 = .ok (.aload_n 0, 1) := by decide +kernel
theorem dX11_init_74 : decode cX11_init 74 = .ok (.bipush 7, 2) := by decide +kernel
theorem dX11_init_76 : decode cX11_init 76 = .ok (.newarray .int, 2) := by decide +kernel
theorem dX11_init_78 : decode cX11_init 78 = .ok (.putfield 39, 3) := by decide +kernel
theorem dX11_init_81 : decode cX11_init 81 = .ok (.aload_n 0, 1) := by decide +kernel
theorem dX11_init_82 : decode cX11_init 82 = .ok (.bipush 7, 2) := by decide +kernel
theorem dX11_init_84 : decode cX11_init 84 = .ok (.newarray .int, 2) := by decide +kernel
theorem dX11_init_86 : decode cX11_init 86 = .ok (.putfield 42, 3) := by decide +kernel
theorem dX11_init_89 : decode cX11_init 89 = .ok (.aload_n 0, 1) := by decide +kernel
theorem dX11_init_90 : decode cX11_init 90 = .ok (.bipush 7, 2) := by decide +kernel
theorem dX11_init_92 : decode cX11_init 92 = .ok (.newarray .int, 2) := by decide +kernel
theorem dX11_init_94 : decode cX11_init 94 = .ok (.putfield 45, 3) := by decide +kernel
theorem dX11_init_97 : decode cX11_init 97 = .ok (.aload_n 0, 1) := by decide +kernel
theorem dX11_init_98 : decode cX11_init 98 = .ok (.bipush 20, 2) := by decide +kernel
theorem dX11_init_100 : decode cX11_init 100 = .ok (.newarray .int, 2) := by decide +kernel
theorem dX11_init_102 : decode cX11_init 102 = .ok (.putfield 48, 3) := by decide +kernel
theorem dX11_init_105 : decode cX11_init 105 = .ok (.aload_n 0, 1) := by decide +kernel
theorem dX11_init_106 : decode cX11_init 106 = .ok (.bipush 20, 2) := by decide +kernel
theorem dX11_init_108 : decode cX11_init 108 = .ok (.newarray .int, 2) := by decide +kernel
theorem dX11_init_110 : decode cX11_init 110 = .ok (.putfield 51, 3) := by decide +kernel
theorem dX11_init_113 : decode cX11_init 113 = .ok (.aload_n 0, 1) := by decide +kernel
theorem dX11_init_114 : decode cX11_init 114 = .ok (.sipush 800, 3) := by decide +kernel
theorem dX11_init_117 : decode cX11_init 117 = .ok (.newarray .int, 2) := by decide +kernel
theorem dX11_init_119 : decode cX11_init 119 = .ok (.putfield 54, 3) := by decide +kernel
theorem dX11_init_122 : decode cX11_init 122 = .ok (.aload_n 0, 1) := by decide +kernel
theorem dX11_init_123 : decode cX11_init 123 = .ok (.iconst 3, 1) := by decide +kernel
theorem dX11_init_124 : decode cX11_init 124 = .ok (.newarray .int, 2) := by decide +kernel
theorem dX11_init_126 : decode cX11_init 126 = .ok (.putfield 57, 3) := by decide +kernel
theorem dX11_init_129 : decode cX11_init 129 = .ok (.aload_n 0, 1) := by decide +kernel
theorem dX11_init_130 : decode cX11_init 130 = .ok (.sipush 2460, 3) := by decide +kernel
theorem dX11_init_133 : decode cX11_init 133 = .ok (.newarray .int, 2) := by decide +kernel
theorem dX11_init_135 : decode cX11_init 135 = .ok (.putfield 60, 3) := by decide +kernel
theorem dX11_init_138 : decode cX11_init 138 = .ok (.aload_n 0, 1) := by decide +kernel
theorem dX11_init_139 : decode cX11_init 139 = .ok (.sipush 216, 3) := by decide +kernel
theorem dX11_init_142 : decode cX11_init 142 = .ok (.newarray .int, 2) := by decide +kernel
theorem dX11_init_144 : decode cX11_init 144 = .ok (.putfield 63, 3) := by decide +kernel
theorem dX11_init_147 : decode cX11_init 147 = .ok (.iconst 0, 1) := by decide +kernel
theorem dX11_init_148 : decode cX11_init 148 = .ok (.istore_n 1, 1) := by decide +kernel
theorem dX11_init_149 : decode cX11_init 149 = .ok (.iload_n 1, 1) := by decide +kernel
theorem dX11_init_150 : decode cX11_init 150 = .ok (.bipush 6, 2) := by decide +kernel
theorem dX11_init_152 : decode cX11_init 152 = .ok (.if_icmp .ge 16, 3) := by decide +kernel
theorem dX11_init_155 : decode cX11_init 155 = .ok (.aload_n 0, 1) := by decide +kernel
theorem dX11_init_156 : decode cX11_init 156 = .ok (.getfield 17, 3) := by decide +kernel
theorem dX11_init_159 : decode cX11_init 159 = .ok (.iload_n 1, 1) := by decide +kernel
theorem dX11_init_160 : decode cX11_init 160 = .ok (.iconst (-1), 1) := by decide +kernel
theorem dX11_init_161 : decode cX11_init 161 = .ok (.iastore, 1) := by decide +kernel
theorem dX11_init_162 : decode cX11_init 162 = .ok (.iinc 1 1, 3) := by decide +kernel
theorem dX11_init_165 : decode cX11_init 165 = .ok (.goto (-16), 3) := by decide +kernel
theorem dX11_init_168 : decode cX11_init 168 = .ok (.iconst 0, 1) := by decide +kernel
theorem dX11_init_169 : decode cX11_init 169 = .ok (.istore_n 1, 1) := by decide +kernel
theorem dX11_init_170 : decode cX11_init 170 = .ok (.iload_n 1, 1) := by decide +kernel
theorem dX11_init_171 : decode cX11_init 171 = .ok (.iconst 4, 1) := by decide +kernel
theorem dX11_init_172 : decode cX11_init 172 = .ok (.if_icmp .ge 16, 3) := by decide +kernel
theorem dX11_init_175 : decode cX11_init 175 = .ok (.aload_n 0, 1) := by decide +kernel
theorem dX11_init_176 : decode cX11_init 176 = .ok (.getfield 26, 3) := by decide +kernel
theorem dX11_init_179 : decode cX11_init 179 = .ok (.iload_n 1, 1) := by decide +kernel
theorem dX11_init_180 : decode cX11_init 180 = .ok (.iconst (-1), 1) := by decide +kernel
theorem dX11_init_181 : decode cX11_init 181 = .ok (.iastore, 1) := by decide +kernel
theorem dX11_init_182 : decode cX11_init 182 = .ok (.iinc 1 1, 3) := by decide +kernel
theorem dX11_init_185 : decode cX11_init 185 = .ok (.goto (-15), 3) := by decide +kernel
theorem dX11_init_188 : decode cX11_init 188 = .ok (.iconst 0, 1) := by decide +kernel
theorem dX11_init_189 : decode cX11_init 189 = .ok (.istore_n 1, 1) := by decide +kernel
theorem dX11_init_190 : decode cX11_init 190 = .ok (.iload_n 1, 1) := by decide +kernel
theorem dX11_init_191 : decode cX11_init 191 = .ok (.iconst 3, 1) := by decide +kernel
theorem dX11_init_192 : decode cX11_init 192 = .ok (.if_icmp .ge 16, 3) := by decide +kernel
theorem dX11_init_195 : decode cX11_init 195 = .ok (.aload_n 0, 1) := by decide +kernel
theorem dX11_init_196 : decode cX11_init 196 = .ok (.getfield 57, 3) := by decide +kernel
theorem dX11_init_199 : decode cX11_init 199 = .ok (.iload_n 1, 1) := by decide +kernel
theorem dX11_init_200 : decode cX11_init 200 = .ok (.iconst (-1), 1) := by decide +kernel
theorem dX11_init_201 : decode cX11_init 201 = .ok (.iastore, 1) := by decide +kernel
theorem dX11_init_202 : decode cX11_init 202 = .ok (.iinc 1 1, 3) := by decide +kernel
theorem dX11_init_205 : decode cX11_init 205 = .ok (.goto (-15), 3) := by decide +kernel
theorem dX11_init_208 : decode cX11_init 208 = .ok (.return_, 1) := by decide +kernel
theorem dX11_in_0 : decode cX11_in 0 = .ok (.iload_n 0, 1) := by decide +kernel
theorem dX11_in_1 : decode cX11_in 1 = .ok (.iload_n 1, 1) := by decide +kernel
theorem dX11_in_2 : decode cX11_in 2 = .ok (.if_icmp .lt 12, 3) := by decide +kernel
theorem dX11_in_5 : decode cX11_in 5 = .ok (.iload_n 0, 1) := by decide +kernel
theorem dX11_in_6 : decode cX11_in 6 = .ok (.iload_n 2, 1) := by decide +kernel
theorem dX11_in_7 : decode cX11_in 7 = .ok (.if_icmp .gt 7, 3) := by decide +kernel
theorem dX11_in_10 : decode cX11_in 10 = .ok (.iconst 1, 1) := by decide +kernel
theorem dX11_in_11 : decode cX11_in 11 = .ok (.goto 4, 3) := by decide +kernel
theorem dX11_in_14 : decode cX11_in 14 = .ok (.iconst 0, 1) := by decide +kernel
theorem dX11_in_15 : decode cX11_in 15 = .ok (.ireturn, 1) := by decide +kernel
theorem dX11_has_0 : decode cX11_has 0 = .ok (.iload_n 0, 1) := by decide +kernel
theorem dX11_has_1 : decode cX11_has 1 = .ok (.iload_n 1, 1) := by decide +kernel
theorem dX11_has_2 : decode cX11_has 2 = .ok (.ishr, 1) := by decide +kernel
theorem dX11_has_3 : decode cX11_has 3 = .ok (.iconst 1, 1) := by decide +kernel
theorem dX11_has_4 : decode cX11_has 4 = .ok (.iand, 1) := by decide +kernel
theorem dX11_has_5 : decode cX11_has 5 = .ok (.iconst 1, 1) := by decide +kernel
theorem dX11_has_6 : decode cX11_has 6 = .ok (.if_icmp .ne 7, 3) := by decide +kernel
theorem dX11_has_9 : decode cX11_has 9 = .ok (.iconst 1, 1) := by decide +kernel
theorem dX11_has_10 : decode cX11_has 10 = .ok (.goto 4, 3) := by decide +kernel
theorem dX11_has_13 : decode cX11_has 13 = .ok (.iconst 0, 1) := by decide +kernel
theorem dX11_has_14 : decode cX11_has 14 = .ok (.ireturn, 1) := by decide +kernel
theorem dX11_bits_0 : decode cX11_bits 0 = .ok (.iconst 0, 1) := by decide +kernel
theorem dX11_bits_1 : decode cX11_bits 1 = .ok (.istore_n 1, 1) := by decide +kernel
theorem dX11_bits_2 : decode cX11_bits 2 = .ok (.iload_n 0, 1) := by decide +kernel
theorem dX11_bits_3 : decode cX11_bits 3 = .ok (.istore_n 2, 1) := by decide +kernel
theorem dX11_bits_4 : decode cX11_bits 4 = .ok (.iload_n 2, 1) := by decide +kernel
theorem dX11_bits_5 : decode cX11_bits 5 = .ok (.ifCond .eq 15, 3) := by decide +kernel
theorem dX11_bits_8 : decode cX11_bits 8 = .ok (.iinc 1 1, 3) := by decide +kernel
theorem dX11_bits_11 : decode cX11_bits 11 = .ok (.iload_n 2, 1) := by decide +kernel
theorem dX11_bits_12 : decode cX11_bits 12 = .ok (.iload_n 2, 1) := by decide +kernel
theorem dX11_bits_13 : decode cX11_bits 13 = .ok (.iconst 1, 1) := by decide +kernel
theorem dX11_bits_14 : decode cX11_bits 14 = .ok (.isub, 1) := by decide +kernel
theorem dX11_bits_15 : decode cX11_bits 15 = .ok (.iand, 1) := by decide +kernel
theorem dX11_bits_16 : decode cX11_bits 16 = .ok (.istore_n 2, 1) := by decide +kernel
theorem dX11_bits_17 : decode cX11_bits 17 = .ok (.goto (-13), 3) := by decide +kernel
theorem dX11_bits_20 : decode cX11_bits 20 = .ok (.iload_n 1, 1) := by decide +kernel
theorem dX11_bits_21 : decode cX11_bits 21 = .ok (.ireturn, 1) := by decide +kernel
theorem dX11_found_0 : decode cX11_found 0 = .ok (.aload_n 0, 1) := by decide +kernel
theorem dX11_found_1 : decode cX11_found 1 = .ok (.iload_n 1, 1) := by decide +kernel
theorem dX11_found_2 : decode cX11_found 2 = .ok (.putfield 66, 3) := by decide +kernel
theorem dX11_found_5 : decode cX11_found 5 = .ok (.aload_n 0, 1) := by decide +kernel
theorem dX11_found_6 : decode cX11_found 6 = .ok (.getfield 13, 3) := by decide +kernel
theorem dX11_found_9 : decode cX11_found 9 = .ok (.iload_n 1, 1) := by decide +kernel
theorem dX11_found_10 : decode cX11_found 10 = .ok (.dup2, 1) := by decide +kernel
theorem dX11_found_11 : decode cX11_found 11 = .ok (.iaload, 1) := by decide +kernel
theorem dX11_found_12 : decode cX11_found 12 = .ok (.iconst 1, 1) := by decide +kernel
theorem dX11_found_13 : decode cX11_found 13 = .ok (.iadd, 1) := by decide +kernel
theorem dX11_found_14 : decode cX11_found 14 = .ok (.iastore, 1) := by decide +kernel
theorem dX11_found_15 : decode cX11_found 15 = .ok (.bipush (-3), 2) := by decide +kernel
theorem dX11_found_17 : decode cX11_found 17 = .ok (.ireturn, 1) := by decide +kernel
theorem dX11_tells_0 : decode cX11_tells 0 = .ok (.aload_n 0, 1) := by decide +kernel
theorem dX11_tells_1 : decode cX11_tells 1 = .ok (.iload_n 1, 1) := by decide +kernel
theorem dX11_tells_2 : decode cX11_tells 2 = .ok (.putfield 70, 3) := by decide +kernel
theorem dX11_tells_5 : decode cX11_tells 5 = .ok (.iload_n 2, 1) := by decide +kernel
theorem dX11_tells_6 : decode cX11_tells 6 = .ok (.ireturn, 1) := by decide +kernel
theorem dX11_asked_0 : decode cX11_asked 0 = .ok (.aload_n 0, 1) := by decide +kernel
theorem dX11_asked_1 : decode cX11_asked 1 = .ok (.getfield 70, 3) := by decide +kernel
theorem dX11_asked_4 : decode cX11_asked 4 = .ok (.ireturn, 1) := by decide +kernel
theorem dX11_upper_0 : decode cX11_upper 0 = .ok (.aload_n 0, 1) := by decide +kernel
theorem dX11_upper_1 : decode cX11_upper 1 = .ok (.getfield 73, 3) := by decide +kernel
theorem dX11_upper_4 : decode cX11_upper 4 = .ok (.lreturn, 1) := by decide +kernel
theorem dX11_lower_0 : decode cX11_lower 0 = .ok (.aload_n 0, 1) := by decide +kernel
theorem dX11_lower_1 : decode cX11_lower 1 = .ok (.getfield 7, 3) := by decide +kernel
theorem dX11_lower_4 : decode cX11_lower 4 = .ok (.lreturn, 1) := by decide +kernel
theorem dX11_lowest_0 : decode cX11_lowest 0 = .ok (.lload_n 1, 1) := by decide +kernel
theorem dX11_lowest_1 : decode cX11_lowest 1 = .ok (.lstore 6, 2) := by decide +kernel
theorem dX11_lowest_3 : decode cX11_lowest 3 = .ok (.lload_n 3, 1) := by decide +kernel
theorem dX11_lowest_4 : decode cX11_lowest 4 = .ok (.lstore 8, 2) := by decide +kernel
theorem dX11_lowest_6 : decode cX11_lowest 6 = .ok (.lload 8, 2) := by decide +kernel
theorem dX11_lowest_8 : decode cX11_lowest 8 = .ok (.lconst 0, 1) := by decide +kernel
theorem dX11_lowest_9 : decode cX11_lowest 9 = .ok (.lcmp, 1) := by decide +kernel
theorem dX11_lowest_10 : decode cX11_lowest 10 = .ok (.ifCond .eq 21, 3) := by decide +kernel
theorem dX11_lowest_13 : decode cX11_lowest 13 = .ok (.lload 6, 2) := by decide +kernel
theorem dX11_lowest_15 : decode cX11_lowest 15 = .ok (.lload 8, 2) := by decide +kernel
theorem dX11_lowest_17 : decode cX11_lowest 17 = .ok (.lrem, 1) := by decide +kernel
theorem dX11_lowest_18 : decode cX11_lowest 18 = .ok (.lstore 10, 2) := by decide +kernel
theorem dX11_lowest_20 : decode cX11_lowest 20 = .ok (.lload 8, 2) := by decide +kernel
theorem dX11_lowest_22 : decode cX11_lowest 22 = .ok (.lstore 6, 2) := by decide +kernel
theorem dX11_lowest_24 : decode cX11_lowest 24 = .ok (.lload 10, 2) := by decide +kernel
theorem dX11_lowest_26 : decode cX11_lowest 26 = .ok (.lstore 8, 2) := by decide +kernel
theorem dX11_lowest_28 : decode cX11_lowest 28 = .ok (.goto (-22), 3) := by decide +kernel
theorem dX11_lowest_31 : decode cX11_lowest 31 = .ok (.aload_n 0, 1) := by decide +kernel
theorem dX11_lowest_32 : decode cX11_lowest 32 = .ok (.lload_n 1, 1) := by decide +kernel
theorem dX11_lowest_33 : decode cX11_lowest 33 = .ok (.lload 6, 2) := by decide +kernel
theorem dX11_lowest_35 : decode cX11_lowest 35 = .ok (.ldiv, 1) := by decide +kernel
theorem dX11_lowest_36 : decode cX11_lowest 36 = .ok (.putfield 73, 3) := by decide +kernel
theorem dX11_lowest_39 : decode cX11_lowest 39 = .ok (.aload_n 0, 1) := by decide +kernel
theorem dX11_lowest_40 : decode cX11_lowest 40 = .ok (.lload_n 3, 1) := by decide +kernel
theorem dX11_lowest_41 : decode cX11_lowest 41 = .ok (.lload 6, 2) := by decide +kernel
theorem dX11_lowest_43 : decode cX11_lowest 43 = .ok (.ldiv, 1) := by decide +kernel
theorem dX11_lowest_44 : decode cX11_lowest 44 = .ok (.putfield 7, 3) := by decide +kernel
theorem dX11_lowest_47 : decode cX11_lowest 47 = .ok (.iload 5, 2) := by decide +kernel
theorem dX11_lowest_49 : decode cX11_lowest 49 = .ok (.ireturn, 1) := by decide +kernel
theorem dX11_finding_0 : decode cX11_finding 0 = .ok (.aload_n 0, 1) := by decide +kernel
theorem dX11_finding_1 : decode cX11_finding 1 = .ok (.getfield 66, 3) := by decide +kernel
theorem dX11_finding_4 : decode cX11_finding 4 = .ok (.ireturn, 1) := by decide +kernel
theorem dX11_findings_0 : decode cX11_findings 0 = .ok (.iload_n 1, 1) := by decide +kernel
theorem dX11_findings_1 : decode cX11_findings 1 = .ok (.iconst 1, 1) := by decide +kernel
theorem dX11_findings_2 : decode cX11_findings 2 = .ok (.iconst 5, 1) := by decide +kernel
theorem dX11_findings_3 : decode cX11_findings 3 = .ok (.invokestatic 76, 3) := by decide +kernel
theorem dX11_findings_6 : decode cX11_findings 6 = .ok (.ifCond .eq 12, 3) := by decide +kernel
theorem dX11_findings_9 : decode cX11_findings 9 = .ok (.aload_n 0, 1) := by decide +kernel
theorem dX11_findings_10 : decode cX11_findings 10 = .ok (.getfield 13, 3) := by decide +kernel
theorem dX11_findings_13 : decode cX11_findings 13 = .ok (.iload_n 1, 1) := by decide +kernel
theorem dX11_findings_14 : decode cX11_findings 14 = .ok (.iaload, 1) := by decide +kernel
theorem dX11_findings_15 : decode cX11_findings 15 = .ok (.goto 4, 3) := by decide +kernel
theorem dX11_findings_18 : decode cX11_findings 18 = .ok (.iconst (-1), 1) := by decide +kernel
theorem dX11_findings_19 : decode cX11_findings 19 = .ok (.ireturn, 1) := by decide +kernel
theorem dX11_isRow_0 : decode cX11_isRow 0 = .ok (.iload_n 0, 1) := by decide +kernel
theorem dX11_isRow_1 : decode cX11_isRow 1 = .ok (.iconst 0, 1) := by decide +kernel
theorem dX11_isRow_2 : decode cX11_isRow 2 = .ok (.iconst 5, 1) := by decide +kernel
theorem dX11_isRow_3 : decode cX11_isRow 3 = .ok (.invokestatic 76, 3) := by decide +kernel
theorem dX11_isRow_6 : decode cX11_isRow 6 = .ok (.ireturn, 1) := by decide +kernel
theorem dX11_rowAt_0 : decode cX11_rowAt 0 = .ok (.aload_n 0, 1) := by decide +kernel
theorem dX11_rowAt_1 : decode cX11_rowAt 1 = .ok (.getfield 20, 3) := by decide +kernel
theorem dX11_rowAt_4 : decode cX11_rowAt 4 = .ok (.bipush 40, 2) := by decide +kernel
theorem dX11_rowAt_6 : decode cX11_rowAt 6 = .ok (.iload_n 1, 1) := by decide +kernel
theorem dX11_rowAt_7 : decode cX11_rowAt 7 = .ok (.imul, 1) := by decide +kernel
theorem dX11_rowAt_8 : decode cX11_rowAt 8 = .ok (.iload_n 2, 1) := by decide +kernel
theorem dX11_rowAt_9 : decode cX11_rowAt 9 = .ok (.iadd, 1) := by decide +kernel
theorem dX11_rowAt_10 : decode cX11_rowAt 10 = .ok (.iaload, 1) := by decide +kernel
theorem dX11_rowAt_11 : decode cX11_rowAt 11 = .ok (.ireturn, 1) := by decide +kernel
theorem dX11_row_0 : decode cX11_row 0 = .ok (.iload_n 1, 1) := by decide +kernel
theorem dX11_row_1 : decode cX11_row 1 = .ok (.invokestatic 80, 3) := by decide +kernel
theorem dX11_row_4 : decode cX11_row 4 = .ok (.ifCond .eq 9, 3) := by decide +kernel
theorem dX11_row_7 : decode cX11_row 7 = .ok (.iload_n 2, 1) := by decide +kernel
theorem dX11_row_8 : decode cX11_row 8 = .ok (.bipush 40, 2) := by decide +kernel
theorem dX11_row_10 : decode cX11_row 10 = .ok (.if_icmp .le 5, 3) := by decide +kernel
theorem dX11_row_13 : decode cX11_row 13 = .ok (.iconst (-1), 1) := by decide +kernel
theorem dX11_row_14 : decode cX11_row 14 = .ok (.ireturn, 1) := by decide +kernel
theorem dX11_row_15 : decode cX11_row 15 = .ok (.iload_n 2, 1) := by decide +kernel
theorem dX11_row_16 : decode cX11_row 16 = .ok (.ifCond .ge 9, 3) := by decide +kernel
theorem dX11_row_19 : decode cX11_row 19 = .ok (.aload_n 0, 1) := by decide +kernel
theorem dX11_row_20 : decode cX11_row 20 = .ok (.iconst 5, 1) := by decide +kernel
theorem dX11_row_21 : decode cX11_row 21 = .ok (.invokevirtual 84, 3) := by decide +kernel
theorem dX11_row_24 : decode cX11_row 24 = .ok (.ireturn, 1) := by decide +kernel
theorem dX11_row_25 : decode cX11_row 25 = .ok (.aload_n 0, 1) := by decide +kernel
theorem dX11_row_26 : decode cX11_row 26 = .ok (.getfield 17, 3) := by decide +kernel
theorem dX11_row_29 : decode cX11_row 29 = .ok (.iload_n 1, 1) := by decide +kernel
theorem dX11_row_30 : decode cX11_row 30 = .ok (.iload_n 2, 1) := by decide +kernel
theorem dX11_row_31 : decode cX11_row 31 = .ok (.iastore, 1) := by decide +kernel
theorem dX11_row_32 : decode cX11_row 32 = .ok (.iconst 0, 1) := by decide +kernel
theorem dX11_row_33 : decode cX11_row 33 = .ok (.istore_n 3, 1) := by decide +kernel
theorem dX11_row_34 : decode cX11_row 34 = .ok (.iload_n 3, 1) := by decide +kernel
theorem dX11_row_35 : decode cX11_row 35 = .ok (.bipush 40, 2) := by decide +kernel
theorem dX11_row_37 : decode cX11_row 37 = .ok (.if_icmp .ge 21, 3) := by decide +kernel
theorem dX11_row_40 : decode cX11_row 40 = .ok (.aload_n 0, 1) := by decide +kernel
theorem dX11_row_41 : decode cX11_row 41 = .ok (.getfield 20, 3) := by decide +kernel
theorem dX11_row_44 : decode cX11_row 44 = .ok (.bipush 40, 2) := by decide +kernel
theorem dX11_row_46 : decode cX11_row 46 = .ok (.iload_n 1, 1) := by decide +kernel
theorem dX11_row_47 : decode cX11_row 47 = .ok (.imul, 1) := by decide +kernel
theorem dX11_row_48 : decode cX11_row 48 = .ok (.iload_n 3, 1) := by decide +kernel
theorem dX11_row_49 : decode cX11_row 49 = .ok (.iadd, 1) := by decide +kernel
theorem dX11_row_50 : decode cX11_row 50 = .ok (.iconst 0, 1) := by decide +kernel
theorem dX11_row_51 : decode cX11_row 51 = .ok (.iastore, 1) := by decide +kernel
theorem dX11_row_52 : decode cX11_row 52 = .ok (.iinc 3 1, 3) := by decide +kernel
theorem dX11_row_55 : decode cX11_row 55 = .ok (.goto (-21), 3) := by decide +kernel
theorem dX11_row_58 : decode cX11_row 58 = .ok (.iload_n 2, 1) := by decide +kernel
theorem dX11_row_59 : decode cX11_row 59 = .ok (.ireturn, 1) := by decide +kernel
theorem dX11_lay_0 : decode cX11_lay 0 = .ok (.iload_n 1, 1) := by decide +kernel
theorem dX11_lay_1 : decode cX11_lay 1 = .ok (.invokestatic 80, 3) := by decide +kernel
theorem dX11_lay_4 : decode cX11_lay 4 = .ok (.ifCond .ne 5, 3) := by decide +kernel
theorem dX11_lay_7 : decode cX11_lay 7 = .ok (.iconst (-1), 1) := by decide +kernel
theorem dX11_lay_8 : decode cX11_lay 8 = .ok (.ireturn, 1) := by decide +kernel
theorem dX11_lay_9 : decode cX11_lay 9 = .ok (.aload_n 0, 1) := by decide +kernel
theorem dX11_lay_10 : decode cX11_lay 10 = .ok (.getfield 17, 3) := by decide +kernel
theorem dX11_lay_13 : decode cX11_lay 13 = .ok (.iload_n 1, 1) := by decide +kernel
theorem dX11_lay_14 : decode cX11_lay 14 = .ok (.iaload, 1) := by decide +kernel
theorem dX11_lay_15 : decode cX11_lay 15 = .ok (.ifCond .ge 9, 3) := by decide +kernel
theorem dX11_lay_18 : decode cX11_lay 18 = .ok (.aload_n 0, 1) := by decide +kernel
theorem dX11_lay_19 : decode cX11_lay 19 = .ok (.iconst 1, 1) := by decide +kernel
theorem dX11_lay_20 : decode cX11_lay 20 = .ok (.invokevirtual 84, 3) := by decide +kernel
theorem dX11_lay_23 : decode cX11_lay 23 = .ok (.ireturn, 1) := by decide +kernel
theorem dX11_lay_24 : decode cX11_lay 24 = .ok (.iload_n 2, 1) := by decide +kernel
theorem dX11_lay_25 : decode cX11_lay 25 = .ok (.iconst 0, 1) := by decide +kernel
theorem dX11_lay_26 : decode cX11_lay 26 = .ok (.aload_n 0, 1) := by decide +kernel
theorem dX11_lay_27 : decode cX11_lay 27 = .ok (.getfield 17, 3) := by decide +kernel
theorem dX11_lay_30 : decode cX11_lay 30 = .ok (.iload_n 1, 1) := by decide +kernel
theorem dX11_lay_31 : decode cX11_lay 31 = .ok (.iaload, 1) := by decide +kernel
theorem dX11_lay_32 : decode cX11_lay 32 = .ok (.iconst 1, 1) := by decide +kernel
theorem dX11_lay_33 : decode cX11_lay 33 = .ok (.isub, 1) := by decide +kernel
theorem dX11_lay_34 : decode cX11_lay 34 = .ok (.invokestatic 76, 3) := by decide +kernel
theorem dX11_lay_37 : decode cX11_lay 37 = .ok (.ifCond .ne 9, 3) := by decide +kernel
theorem dX11_lay_40 : decode cX11_lay 40 = .ok (.aload_n 0, 1) := by decide +kernel
theorem dX11_lay_41 : decode cX11_lay 41 = .ok (.iconst 2, 1) := by decide +kernel
theorem dX11_lay_42 : decode cX11_lay 42 = .ok (.invokevirtual 84, 3) := by decide +kernel
theorem dX11_lay_45 : decode cX11_lay 45 = .ok (.ireturn, 1) := by decide +kernel
theorem dX11_lay_46 : decode cX11_lay 46 = .ok (.aload_n 0, 1) := by decide +kernel
theorem dX11_lay_47 : decode cX11_lay 47 = .ok (.iload_n 1, 1) := by decide +kernel
theorem dX11_lay_48 : decode cX11_lay 48 = .ok (.iload_n 2, 1) := by decide +kernel
theorem dX11_lay_49 : decode cX11_lay 49 = .ok (.invokevirtual 88, 3) := by decide +kernel
theorem dX11_lay_52 : decode cX11_lay 52 = .ok (.istore 4, 2) := by decide +kernel
theorem dX11_lay_54 : decode cX11_lay 54 = .ok (.aload_n 0, 1) := by decide +kernel
theorem dX11_lay_55 : decode cX11_lay 55 = .ok (.getfield 20, 3) := by decide +kernel
theorem dX11_lay_58 : decode cX11_lay 58 = .ok (.bipush 40, 2) := by decide +kernel
theorem dX11_lay_60 : decode cX11_lay 60 = .ok (.iload_n 1, 1) := by decide +kernel
theorem dX11_lay_61 : decode cX11_lay 61 = .ok (.imul, 1) := by decide +kernel
theorem dX11_lay_62 : decode cX11_lay 62 = .ok (.iload_n 2, 1) := by decide +kernel
theorem dX11_lay_63 : decode cX11_lay 63 = .ok (.iadd, 1) := by decide +kernel
theorem dX11_lay_64 : decode cX11_lay 64 = .ok (.iload_n 3, 1) := by decide +kernel
theorem dX11_lay_65 : decode cX11_lay 65 = .ok (.iastore, 1) := by decide +kernel
theorem dX11_lay_66 : decode cX11_lay 66 = .ok (.aload_n 0, 1) := by decide +kernel
theorem dX11_lay_67 : decode cX11_lay 67 = .ok (.iload 4, 2) := by decide +kernel
theorem dX11_lay_69 : decode cX11_lay 69 = .ok (.iconst 1, 1) := by decide +kernel
theorem dX11_lay_70 : decode cX11_lay 70 = .ok (.invokevirtual 92, 3) := by decide +kernel
theorem dX11_lay_73 : decode cX11_lay 73 = .ok (.ireturn, 1) := by decide +kernel
theorem dX11_at_0 : decode cX11_at 0 = .ok (.iload_n 1, 1) := by decide +kernel
theorem dX11_at_1 : decode cX11_at 1 = .ok (.invokestatic 80, 3) := by decide +kernel
theorem dX11_at_4 : decode cX11_at 4 = .ok (.ifCond .ne 5, 3) := by decide +kernel
theorem dX11_at_7 : decode cX11_at 7 = .ok (.iconst (-1), 1) := by decide +kernel
theorem dX11_at_8 : decode cX11_at 8 = .ok (.ireturn, 1) := by decide +kernel
theorem dX11_at_9 : decode cX11_at 9 = .ok (.aload_n 0, 1) := by decide +kernel
theorem dX11_at_10 : decode cX11_at 10 = .ok (.getfield 17, 3) := by decide +kernel
theorem dX11_at_13 : decode cX11_at 13 = .ok (.iload_n 1, 1) := by decide +kernel
theorem dX11_at_14 : decode cX11_at 14 = .ok (.iaload, 1) := by decide +kernel
theorem dX11_at_15 : decode cX11_at 15 = .ok (.ifCond .ge 9, 3) := by decide +kernel
theorem dX11_at_18 : decode cX11_at 18 = .ok (.aload_n 0, 1) := by decide +kernel
theorem dX11_at_19 : decode cX11_at 19 = .ok (.iconst 1, 1) := by decide +kernel
theorem dX11_at_20 : decode cX11_at 20 = .ok (.invokevirtual 84, 3) := by decide +kernel
theorem dX11_at_23 : decode cX11_at 23 = .ok (.ireturn, 1) := by decide +kernel
theorem dX11_at_24 : decode cX11_at 24 = .ok (.iload_n 2, 1) := by decide +kernel
theorem dX11_at_25 : decode cX11_at 25 = .ok (.iconst 0, 1) := by decide +kernel
theorem dX11_at_26 : decode cX11_at 26 = .ok (.aload_n 0, 1) := by decide +kernel
theorem dX11_at_27 : decode cX11_at 27 = .ok (.getfield 17, 3) := by decide +kernel
theorem dX11_at_30 : decode cX11_at 30 = .ok (.iload_n 1, 1) := by decide +kernel
theorem dX11_at_31 : decode cX11_at 31 = .ok (.iaload, 1) := by decide +kernel
theorem dX11_at_32 : decode cX11_at 32 = .ok (.iconst 1, 1) := by decide +kernel
theorem dX11_at_33 : decode cX11_at 33 = .ok (.isub, 1) := by decide +kernel
theorem dX11_at_34 : decode cX11_at 34 = .ok (.invokestatic 76, 3) := by decide +kernel
theorem dX11_at_37 : decode cX11_at 37 = .ok (.ifCond .eq 17, 3) := by decide +kernel
theorem dX11_at_40 : decode cX11_at 40 = .ok (.aload_n 0, 1) := by decide +kernel
theorem dX11_at_41 : decode cX11_at 41 = .ok (.aload_n 0, 1) := by decide +kernel
theorem dX11_at_42 : decode cX11_at 42 = .ok (.iload_n 1, 1) := by decide +kernel
theorem dX11_at_43 : decode cX11_at 43 = .ok (.iload_n 2, 1) := by decide +kernel
theorem dX11_at_44 : decode cX11_at 44 = .ok (.invokevirtual 88, 3) := by decide +kernel
theorem dX11_at_47 : decode cX11_at 47 = .ok (.iconst 1, 1) := by decide +kernel
theorem dX11_at_48 : decode cX11_at 48 = .ok (.invokevirtual 92, 3) := by decide +kernel
theorem dX11_at_51 : decode cX11_at 51 = .ok (.goto 8, 3) := by decide +kernel
theorem dX11_at_54 : decode cX11_at 54 = .ok (.aload_n 0, 1) := by decide +kernel
theorem dX11_at_55 : decode cX11_at 55 = .ok (.iconst 2, 1) := by decide +kernel
theorem dX11_at_56 : decode cX11_at 56 = .ok (.invokevirtual 84, 3) := by decide +kernel
theorem dX11_at_59 : decode cX11_at 59 = .ok (.ireturn, 1) := by decide +kernel
theorem dX11_tear_0 : decode cX11_tear 0 = .ok (.iload_n 1, 1) := by decide +kernel
theorem dX11_tear_1 : decode cX11_tear 1 = .ok (.invokestatic 80, 3) := by decide +kernel
theorem dX11_tear_4 : decode cX11_tear 4 = .ok (.ifCond .ne 5, 3) := by decide +kernel
theorem dX11_tear_7 : decode cX11_tear 7 = .ok (.iconst (-1), 1) := by decide +kernel
theorem dX11_tear_8 : decode cX11_tear 8 = .ok (.ireturn, 1) := by decide +kernel
theorem dX11_tear_9 : decode cX11_tear 9 = .ok (.aload_n 0, 1) := by decide +kernel
theorem dX11_tear_10 : decode cX11_tear 10 = .ok (.getfield 17, 3) := by decide +kernel
theorem dX11_tear_13 : decode cX11_tear 13 = .ok (.iload_n 1, 1) := by decide +kernel
theorem dX11_tear_14 : decode cX11_tear 14 = .ok (.iaload, 1) := by decide +kernel
theorem dX11_tear_15 : decode cX11_tear 15 = .ok (.ifCond .ge 9, 3) := by decide +kernel
theorem dX11_tear_18 : decode cX11_tear 18 = .ok (.aload_n 0, 1) := by decide +kernel
theorem dX11_tear_19 : decode cX11_tear 19 = .ok (.iconst 1, 1) := by decide +kernel
theorem dX11_tear_20 : decode cX11_tear 20 = .ok (.invokevirtual 84, 3) := by decide +kernel
theorem dX11_tear_23 : decode cX11_tear 23 = .ok (.ireturn, 1) := by decide +kernel
theorem dX11_tear_24 : decode cX11_tear 24 = .ok (.aload_n 0, 1) := by decide +kernel
theorem dX11_tear_25 : decode cX11_tear 25 = .ok (.getfield 17, 3) := by decide +kernel
theorem dX11_tear_28 : decode cX11_tear 28 = .ok (.iload_n 1, 1) := by decide +kernel
theorem dX11_tear_29 : decode cX11_tear 29 = .ok (.iconst (-1), 1) := by decide +kernel
theorem dX11_tear_30 : decode cX11_tear 30 = .ok (.iastore, 1) := by decide +kernel
theorem dX11_tear_31 : decode cX11_tear 31 = .ok (.iconst 1, 1) := by decide +kernel
theorem dX11_tear_32 : decode cX11_tear 32 = .ok (.ireturn, 1) := by decide +kernel
theorem dX11_copy_0 : decode cX11_copy 0 = .ok (.iload_n 1, 1) := by decide +kernel
theorem dX11_copy_1 : decode cX11_copy 1 = .ok (.invokestatic 80, 3) := by decide +kernel
theorem dX11_copy_4 : decode cX11_copy 4 = .ok (.ifCond .eq 10, 3) := by decide +kernel
theorem dX11_copy_7 : decode cX11_copy 7 = .ok (.iload_n 3, 1) := by decide +kernel
theorem dX11_copy_8 : decode cX11_copy 8 = .ok (.invokestatic 80, 3) := by decide +kernel
theorem dX11_copy_11 : decode cX11_copy 11 = .ok (.ifCond .ne 5, 3) := by decide +kernel
theorem dX11_copy_14 : decode cX11_copy 14 = .ok (.iconst (-1), 1) := by decide +kernel
theorem dX11_copy_15 : decode cX11_copy 15 = .ok (.ireturn, 1) := by decide +kernel
theorem dX11_copy_16 : decode cX11_copy 16 = .ok (.iload 5, 2) := by decide +kernel
theorem dX11_copy_18 : decode cX11_copy 18 = .ok (.ifCond .ge 9, 3) := by decide +kernel
theorem dX11_copy_21 : decode cX11_copy 21 = .ok (.aload_n 0, 1) := by decide +kernel
theorem dX11_copy_22 : decode cX11_copy 22 = .ok (.iconst 5, 1) := by decide +kernel
theorem dX11_copy_23 : decode cX11_copy 23 = .ok (.invokevirtual 84, 3) := by decide +kernel
theorem dX11_copy_26 : decode cX11_copy 26 = .ok (.ireturn, 1) := by decide +kernel
theorem dX11_copy_27 : decode cX11_copy 27 = .ok (.aload_n 0, 1) := by decide +kernel
theorem dX11_copy_28 : decode cX11_copy 28 = .ok (.getfield 17, 3) := by decide +kernel
theorem dX11_copy_31 : decode cX11_copy 31 = .ok (.iload_n 1, 1) := by decide +kernel
theorem dX11_copy_32 : decode cX11_copy 32 = .ok (.iaload, 1) := by decide +kernel
theorem dX11_copy_33 : decode cX11_copy 33 = .ok (.ifCond .lt 12, 3) := by decide +kernel
theorem dX11_copy_36 : decode cX11_copy 36 = .ok (.aload_n 0, 1) := by decide +kernel
theorem dX11_copy_37 : decode cX11_copy 37 = .ok (.getfield 17, 3) := by decide +kernel
theorem dX11_copy_40 : decode cX11_copy 40 = .ok (.iload_n 3, 1) := by decide +kernel
theorem dX11_copy_41 : decode cX11_copy 41 = .ok (.iaload, 1) := by decide +kernel
theorem dX11_copy_42 : decode cX11_copy 42 = .ok (.ifCond .ge 9, 3) := by decide +kernel
theorem dX11_copy_45 : decode cX11_copy 45 = .ok (.aload_n 0, 1) := by decide +kernel
theorem dX11_copy_46 : decode cX11_copy 46 = .ok (.iconst 1, 1) := by decide +kernel
theorem dX11_copy_47 : decode cX11_copy 47 = .ok (.invokevirtual 84, 3) := by decide +kernel
theorem dX11_copy_50 : decode cX11_copy 50 = .ok (.ireturn, 1) := by decide +kernel
theorem dX11_copy_51 : decode cX11_copy 51 = .ok (.iload_n 2, 1) := by decide +kernel
theorem dX11_copy_52 : decode cX11_copy 52 = .ok (.ifCond .lt 43, 3) := by decide +kernel
theorem dX11_copy_55 : decode cX11_copy 55 = .ok (.iload 4, 2) := by decide +kernel
theorem dX11_copy_57 : decode cX11_copy 57 = .ok (.ifCond .lt 38, 3) := by decide +kernel
theorem dX11_copy_60 : decode cX11_copy 60 = .ok (.iload_n 2, 1) := by decide +kernel
theorem dX11_copy_61 : decode cX11_copy 61 = .ok (.i2l, 1) := by decide +kernel
theorem dX11_copy_62 : decode cX11_copy 62 = .ok (.iload 5, 2) := by decide +kernel
theorem dX11_copy_64 : decode cX11_copy 64 = .ok (.i2l, 1) := by decide +kernel
theorem dX11_copy_65 : decode cX11_copy 65 = .ok (.ladd, 1) := by decide +kernel
theorem dX11_copy_66 : decode cX11_copy 66 = .ok (.aload_n 0, 1) := by decide +kernel
theorem dX11_copy_67 : decode cX11_copy 67 = .ok (.getfield 17, 3) := by decide +kernel
theorem dX11_copy_70 : decode cX11_copy 70 = .ok (.iload_n 1, 1) := by decide +kernel
theorem dX11_copy_71 : decode cX11_copy 71 = .ok (.iaload, 1) := by decide +kernel
theorem dX11_copy_72 : decode cX11_copy 72 = .ok (.i2l, 1) := by decide +kernel
theorem dX11_copy_73 : decode cX11_copy 73 = .ok (.lcmp, 1) := by decide +kernel
theorem dX11_copy_74 : decode cX11_copy 74 = .ok (.ifCond .gt 21, 3) := by decide +kernel
theorem dX11_copy_77 : decode cX11_copy 77 = .ok (.iload 4, 2) := by decide +kernel
theorem dX11_copy_79 : decode cX11_copy 79 = .ok (.i2l, 1) := by decide +kernel
theorem dX11_copy_80 : decode cX11_copy 80 = .ok (.iload 5, 2) := by decide +kernel
theorem dX11_copy_82 : decode cX11_copy 82 = .ok (.i2l, 1) := by decide +kernel
theorem dX11_copy_83 : decode cX11_copy 83 = .ok (.ladd, 1) := by decide +kernel
theorem dX11_copy_84 : decode cX11_copy 84 = .ok (.aload_n 0, 1) := by decide +kernel
theorem dX11_copy_85 : decode cX11_copy 85 = .ok (.getfield 17, 3) := by decide +kernel
theorem dX11_copy_88 : decode cX11_copy 88 = .ok (.iload_n 3, 1) := by decide +kernel
theorem dX11_copy_89 : decode cX11_copy 89 = .ok (.iaload, 1) := by decide +kernel
theorem dX11_copy_90 : decode cX11_copy 90 = .ok (.i2l, 1) := by decide +kernel
theorem dX11_copy_91 : decode cX11_copy 91 = .ok (.lcmp, 1) := by decide +kernel
theorem dX11_copy_92 : decode cX11_copy 92 = .ok (.ifCond .le 9, 3) := by decide +kernel
theorem dX11_copy_95 : decode cX11_copy 95 = .ok (.aload_n 0, 1) := by decide +kernel
theorem dX11_copy_96 : decode cX11_copy 96 = .ok (.iconst 2, 1) := by decide +kernel
theorem dX11_copy_97 : decode cX11_copy 97 = .ok (.invokevirtual 84, 3) := by decide +kernel
theorem dX11_copy_100 : decode cX11_copy 100 = .ok (.ireturn, 1) := by decide +kernel
theorem dX11_copy_101 : decode cX11_copy 101 = .ok (.iconst 0, 1) := by decide +kernel
theorem dX11_copy_102 : decode cX11_copy 102 = .ok (.istore 6, 2) := by decide +kernel
theorem dX11_copy_104 : decode cX11_copy 104 = .ok (.iload 6, 2) := by decide +kernel
theorem dX11_copy_106 : decode cX11_copy 106 = .ok (.iload 5, 2) := by decide +kernel
theorem dX11_copy_108 : decode cX11_copy 108 = .ok (.if_icmp .ge 25, 3) := by decide +kernel
theorem dX11_copy_111 : decode cX11_copy 111 = .ok (.aload_n 0, 1) := by decide +kernel
theorem dX11_copy_112 : decode cX11_copy 112 = .ok (.getfield 23, 3) := by decide +kernel
theorem dX11_copy_115 : decode cX11_copy 115 = .ok (.iload 6, 2) := by decide +kernel
theorem dX11_copy_117 : decode cX11_copy 117 = .ok (.aload_n 0, 1) := by decide +kernel
theorem dX11_copy_118 : decode cX11_copy 118 = .ok (.iload_n 1, 1) := by decide +kernel
theorem dX11_copy_119 : decode cX11_copy 119 = .ok (.iload_n 2, 1) := by decide +kernel
theorem dX11_copy_120 : decode cX11_copy 120 = .ok (.iload 6, 2) := by decide +kernel
theorem dX11_copy_122 : decode cX11_copy 122 = .ok (.iadd, 1) := by decide +kernel
theorem dX11_copy_123 : decode cX11_copy 123 = .ok (.invokevirtual 88, 3) := by decide +kernel
theorem dX11_copy_126 : decode cX11_copy 126 = .ok (.iastore, 1) := by decide +kernel
theorem dX11_copy_127 : decode cX11_copy 127 = .ok (.iinc 6 1, 3) := by decide +kernel
theorem dX11_copy_130 : decode cX11_copy 130 = .ok (.goto (-26), 3) := by decide +kernel
theorem dX11_copy_133 : decode cX11_copy 133 = .ok (.iconst 0, 1) := by decide +kernel
theorem dX11_copy_134 : decode cX11_copy 134 = .ok (.istore 6, 2) := by decide +kernel
theorem dX11_copy_136 : decode cX11_copy 136 = .ok (.iload 6, 2) := by decide +kernel
theorem dX11_copy_138 : decode cX11_copy 138 = .ok (.iload 5, 2) := by decide +kernel
theorem dX11_copy_140 : decode cX11_copy 140 = .ok (.if_icmp .ge 31, 3) := by decide +kernel
theorem dX11_copy_143 : decode cX11_copy 143 = .ok (.aload_n 0, 1) := by decide +kernel
theorem dX11_copy_144 : decode cX11_copy 144 = .ok (.getfield 20, 3) := by decide +kernel
theorem dX11_copy_147 : decode cX11_copy 147 = .ok (.bipush 40, 2) := by decide +kernel
theorem dX11_copy_149 : decode cX11_copy 149 = .ok (.iload_n 3, 1) := by decide +kernel
theorem dX11_copy_150 : decode cX11_copy 150 = .ok (.imul, 1) := by decide +kernel
theorem dX11_copy_151 : decode cX11_copy 151 = .ok (.iload 4, 2) := by decide +kernel
theorem dX11_copy_153 : decode cX11_copy 153 = .ok (.iadd, 1) := by decide +kernel
theorem dX11_copy_154 : decode cX11_copy 154 = .ok (.iload 6, 2) := by decide +kernel
theorem dX11_copy_156 : decode cX11_copy 156 = .ok (.iadd, 1) := by decide +kernel
theorem dX11_copy_157 : decode cX11_copy 157 = .ok (.aload_n 0, 1) := by decide +kernel
theorem dX11_copy_158 : decode cX11_copy 158 = .ok (.getfield 23, 3) := by decide +kernel
theorem dX11_copy_161 : decode cX11_copy 161 = .ok (.iload 6, 2) := by decide +kernel
theorem dX11_copy_163 : decode cX11_copy 163 = .ok (.iaload, 1) := by decide +kernel
theorem dX11_copy_164 : decode cX11_copy 164 = .ok (.iastore, 1) := by decide +kernel
theorem dX11_copy_165 : decode cX11_copy 165 = .ok (.iinc 6 1, 3) := by decide +kernel
theorem dX11_copy_168 : decode cX11_copy 168 = .ok (.goto (-32), 3) := by decide +kernel
theorem dX11_copy_171 : decode cX11_copy 171 = .ok (.iconst 1, 1) := by decide +kernel
theorem dX11_copy_172 : decode cX11_copy 172 = .ok (.ireturn, 1) := by decide +kernel
theorem dX11_mean_0 : decode cX11_mean 0 = .ok (.iload_n 1, 1) := by decide +kernel
theorem dX11_mean_1 : decode cX11_mean 1 = .ok (.invokestatic 80, 3) := by decide +kernel
theorem dX11_mean_4 : decode cX11_mean 4 = .ok (.ifCond .ne 5, 3) := by decide +kernel
theorem dX11_mean_7 : decode cX11_mean 7 = .ok (.iconst (-1), 1) := by decide +kernel
theorem dX11_mean_8 : decode cX11_mean 8 = .ok (.ireturn, 1) := by decide +kernel
theorem dX11_mean_9 : decode cX11_mean 9 = .ok (.aload_n 0, 1) := by decide +kernel
theorem dX11_mean_10 : decode cX11_mean 10 = .ok (.getfield 17, 3) := by decide +kernel
theorem dX11_mean_13 : decode cX11_mean 13 = .ok (.iload_n 1, 1) := by decide +kernel
theorem dX11_mean_14 : decode cX11_mean 14 = .ok (.iaload, 1) := by decide +kernel
theorem dX11_mean_15 : decode cX11_mean 15 = .ok (.ifCond .ge 9, 3) := by decide +kernel
theorem dX11_mean_18 : decode cX11_mean 18 = .ok (.aload_n 0, 1) := by decide +kernel
theorem dX11_mean_19 : decode cX11_mean 19 = .ok (.iconst 1, 1) := by decide +kernel
theorem dX11_mean_20 : decode cX11_mean 20 = .ok (.invokevirtual 84, 3) := by decide +kernel
theorem dX11_mean_23 : decode cX11_mean 23 = .ok (.ireturn, 1) := by decide +kernel
theorem dX11_mean_24 : decode cX11_mean 24 = .ok (.aload_n 0, 1) := by decide +kernel
theorem dX11_mean_25 : decode cX11_mean 25 = .ok (.getfield 17, 3) := by decide +kernel
theorem dX11_mean_28 : decode cX11_mean 28 = .ok (.iload_n 1, 1) := by decide +kernel
theorem dX11_mean_29 : decode cX11_mean 29 = .ok (.iaload, 1) := by decide +kernel
theorem dX11_mean_30 : decode cX11_mean 30 = .ok (.ifCond .ne 9, 3) := by decide +kernel
theorem dX11_mean_33 : decode cX11_mean 33 = .ok (.aload_n 0, 1) := by decide +kernel
theorem dX11_mean_34 : decode cX11_mean 34 = .ok (.iconst 4, 1) := by decide +kernel
theorem dX11_mean_35 : decode cX11_mean 35 = .ok (.invokevirtual 84, 3) := by decide +kernel
theorem dX11_mean_38 : decode cX11_mean 38 = .ok (.ireturn, 1) := by decide +kernel
theorem dX11_mean_39 : decode cX11_mean 39 = .ok (.lconst 0, 1) := by decide +kernel
theorem dX11_mean_40 : decode cX11_mean 40 = .ok (.lstore_n 2, 1) := by decide +kernel
theorem dX11_mean_41 : decode cX11_mean 41 = .ok (.iconst 0, 1) := by decide +kernel
theorem dX11_mean_42 : decode cX11_mean 42 = .ok (.istore 4, 2) := by decide +kernel
theorem dX11_mean_44 : decode cX11_mean 44 = .ok (.iload 4, 2) := by decide +kernel
theorem dX11_mean_46 : decode cX11_mean 46 = .ok (.aload_n 0, 1) := by decide +kernel
theorem dX11_mean_47 : decode cX11_mean 47 = .ok (.getfield 17, 3) := by decide +kernel
theorem dX11_mean_50 : decode cX11_mean 50 = .ok (.iload_n 1, 1) := by decide +kernel
theorem dX11_mean_51 : decode cX11_mean 51 = .ok (.iaload, 1) := by decide +kernel
theorem dX11_mean_52 : decode cX11_mean 52 = .ok (.if_icmp .ge 20, 3) := by decide +kernel
theorem dX11_mean_55 : decode cX11_mean 55 = .ok (.lload_n 2, 1) := by decide +kernel
theorem dX11_mean_56 : decode cX11_mean 56 = .ok (.aload_n 0, 1) := by decide +kernel
theorem dX11_mean_57 : decode cX11_mean 57 = .ok (.iload_n 1, 1) := by decide +kernel
theorem dX11_mean_58 : decode cX11_mean 58 = .ok (.iload 4, 2) := by decide +kernel
theorem dX11_mean_60 : decode cX11_mean 60 = .ok (.invokevirtual 88, 3) := by decide +kernel
theorem dX11_mean_63 : decode cX11_mean 63 = .ok (.i2l, 1) := by decide +kernel
theorem dX11_mean_64 : decode cX11_mean 64 = .ok (.ladd, 1) := by decide +kernel
theorem dX11_mean_65 : decode cX11_mean 65 = .ok (.lstore_n 2, 1) := by decide +kernel
theorem dX11_mean_66 : decode cX11_mean 66 = .ok (.iinc 4 1, 3) := by decide +kernel
theorem dX11_mean_69 : decode cX11_mean 69 = .ok (.goto (-25), 3) := by decide +kernel
theorem dX11_mean_72 : decode cX11_mean 72 = .ok (.aload_n 0, 1) := by decide +kernel
theorem dX11_mean_73 : decode cX11_mean 73 = .ok (.lload_n 2, 1) := by decide +kernel
theorem dX11_mean_74 : decode cX11_mean 74 = .ok (.aload_n 0, 1) := by decide +kernel
theorem dX11_mean_75 : decode cX11_mean 75 = .ok (.getfield 17, 3) := by decide +kernel
theorem dX11_mean_78 : decode cX11_mean 78 = .ok (.iload_n 1, 1) := by decide +kernel
theorem dX11_mean_79 : decode cX11_mean 79 = .ok (.iaload, 1) := by decide +kernel
theorem dX11_mean_80 : decode cX11_mean 80 = .ok (.i2l, 1) := by decide +kernel
theorem dX11_mean_81 : decode cX11_mean 81 = .ok (.ldiv, 1) := by decide +kernel
theorem dX11_mean_82 : decode cX11_mean 82 = .ok (.l2i, 1) := by decide +kernel
theorem dX11_mean_83 : decode cX11_mean 83 = .ok (.iconst 1, 1) := by decide +kernel
theorem dX11_mean_84 : decode cX11_mean 84 = .ok (.invokevirtual 92, 3) := by decide +kernel
theorem dX11_mean_87 : decode cX11_mean 87 = .ok (.ireturn, 1) := by decide +kernel
theorem dX11_isText_0 : decode cX11_isText 0 = .ok (.iload_n 0, 1) := by decide +kernel
theorem dX11_isText_1 : decode cX11_isText 1 = .ok (.iconst 0, 1) := by decide +kernel
theorem dX11_isText_2 : decode cX11_isText 2 = .ok (.iconst 3, 1) := by decide +kernel
theorem dX11_isText_3 : decode cX11_isText 3 = .ok (.invokestatic 76, 3) := by decide +kernel
theorem dX11_isText_6 : decode cX11_isText 6 = .ok (.ireturn, 1) := by decide +kernel
theorem dX11_text_0 : decode cX11_text 0 = .ok (.iload_n 1, 1) := by decide +kernel
theorem dX11_text_1 : decode cX11_text 1 = .ok (.invokestatic 95, 3) := by decide +kernel
theorem dX11_text_4 : decode cX11_text 4 = .ok (.ifCond .eq 9, 3) := by decide +kernel
theorem dX11_text_7 : decode cX11_text 7 = .ok (.iload_n 2, 1) := by decide +kernel
theorem dX11_text_8 : decode cX11_text 8 = .ok (.bipush 60, 2) := by decide +kernel
theorem dX11_text_10 : decode cX11_text 10 = .ok (.if_icmp .le 5, 3) := by decide +kernel
theorem dX11_text_13 : decode cX11_text 13 = .ok (.iconst (-1), 1) := by decide +kernel
theorem dX11_text_14 : decode cX11_text 14 = .ok (.ireturn, 1) := by decide +kernel
theorem dX11_text_15 : decode cX11_text 15 = .ok (.iload_n 2, 1) := by decide +kernel
theorem dX11_text_16 : decode cX11_text 16 = .ok (.ifCond .ge 9, 3) := by decide +kernel
theorem dX11_text_19 : decode cX11_text 19 = .ok (.aload_n 0, 1) := by decide +kernel
theorem dX11_text_20 : decode cX11_text 20 = .ok (.iconst 5, 1) := by decide +kernel
theorem dX11_text_21 : decode cX11_text 21 = .ok (.invokevirtual 84, 3) := by decide +kernel
theorem dX11_text_24 : decode cX11_text 24 = .ok (.ireturn, 1) := by decide +kernel
theorem dX11_text_25 : decode cX11_text 25 = .ok (.aload_n 0, 1) := by decide +kernel
theorem dX11_text_26 : decode cX11_text 26 = .ok (.getfield 26, 3) := by decide +kernel
theorem dX11_text_29 : decode cX11_text 29 = .ok (.iload_n 1, 1) := by decide +kernel
theorem dX11_text_30 : decode cX11_text 30 = .ok (.iload_n 2, 1) := by decide +kernel
theorem dX11_text_31 : decode cX11_text 31 = .ok (.iastore, 1) := by decide +kernel
theorem dX11_text_32 : decode cX11_text 32 = .ok (.iconst 0, 1) := by decide +kernel
theorem dX11_text_33 : decode cX11_text 33 = .ok (.istore_n 3, 1) := by decide +kernel
theorem dX11_text_34 : decode cX11_text 34 = .ok (.iload_n 3, 1) := by decide +kernel
theorem dX11_text_35 : decode cX11_text 35 = .ok (.bipush 60, 2) := by decide +kernel
theorem dX11_text_37 : decode cX11_text 37 = .ok (.if_icmp .ge 22, 3) := by decide +kernel
theorem dX11_text_40 : decode cX11_text 40 = .ok (.aload_n 0, 1) := by decide +kernel
theorem dX11_text_41 : decode cX11_text 41 = .ok (.getfield 29, 3) := by decide +kernel
theorem dX11_text_44 : decode cX11_text 44 = .ok (.bipush 60, 2) := by decide +kernel
theorem dX11_text_46 : decode cX11_text 46 = .ok (.iload_n 1, 1) := by decide +kernel
theorem dX11_text_47 : decode cX11_text 47 = .ok (.imul, 1) := by decide +kernel
theorem dX11_text_48 : decode cX11_text 48 = .ok (.iload_n 3, 1) := by decide +kernel
theorem dX11_text_49 : decode cX11_text 49 = .ok (.iadd, 1) := by decide +kernel
theorem dX11_text_50 : decode cX11_text 50 = .ok (.bipush 32, 2) := by decide +kernel
theorem dX11_text_52 : decode cX11_text 52 = .ok (.bastore, 1) := by decide +kernel
theorem dX11_text_53 : decode cX11_text 53 = .ok (.iinc 3 1, 3) := by decide +kernel
theorem dX11_text_56 : decode cX11_text 56 = .ok (.goto (-22), 3) := by decide +kernel
theorem dX11_text_59 : decode cX11_text 59 = .ok (.iload_n 2, 1) := by decide +kernel
theorem dX11_text_60 : decode cX11_text 60 = .ok (.ireturn, 1) := by decide +kernel
theorem dX11_put_0 : decode cX11_put 0 = .ok (.iload_n 1, 1) := by decide +kernel
theorem dX11_put_1 : decode cX11_put 1 = .ok (.invokestatic 95, 3) := by decide +kernel
theorem dX11_put_4 : decode cX11_put 4 = .ok (.ifCond .ne 5, 3) := by decide +kernel
theorem dX11_put_7 : decode cX11_put 7 = .ok (.iconst (-1), 1) := by decide +kernel
theorem dX11_put_8 : decode cX11_put 8 = .ok (.ireturn, 1) := by decide +kernel
theorem dX11_put_9 : decode cX11_put 9 = .ok (.aload_n 0, 1) := by decide +kernel
theorem dX11_put_10 : decode cX11_put 10 = .ok (.getfield 26, 3) := by decide +kernel
theorem dX11_put_13 : decode cX11_put 13 = .ok (.iload_n 1, 1) := by decide +kernel
theorem dX11_put_14 : decode cX11_put 14 = .ok (.iaload, 1) := by decide +kernel
theorem dX11_put_15 : decode cX11_put 15 = .ok (.ifCond .ge 9, 3) := by decide +kernel
theorem dX11_put_18 : decode cX11_put 18 = .ok (.aload_n 0, 1) := by decide +kernel
theorem dX11_put_19 : decode cX11_put 19 = .ok (.iconst 1, 1) := by decide +kernel
theorem dX11_put_20 : decode cX11_put 20 = .ok (.invokevirtual 84, 3) := by decide +kernel
theorem dX11_put_23 : decode cX11_put 23 = .ok (.ireturn, 1) := by decide +kernel
theorem dX11_put_24 : decode cX11_put 24 = .ok (.iload_n 2, 1) := by decide +kernel
theorem dX11_put_25 : decode cX11_put 25 = .ok (.iconst 0, 1) := by decide +kernel
theorem dX11_put_26 : decode cX11_put 26 = .ok (.aload_n 0, 1) := by decide +kernel
theorem dX11_put_27 : decode cX11_put 27 = .ok (.getfield 26, 3) := by decide +kernel
theorem dX11_put_30 : decode cX11_put 30 = .ok (.iload_n 1, 1) := by decide +kernel
theorem dX11_put_31 : decode cX11_put 31 = .ok (.iaload, 1) := by decide +kernel
theorem dX11_put_32 : decode cX11_put 32 = .ok (.iconst 1, 1) := by decide +kernel
theorem dX11_put_33 : decode cX11_put 33 = .ok (.isub, 1) := by decide +kernel
theorem dX11_put_34 : decode cX11_put 34 = .ok (.invokestatic 76, 3) := by decide +kernel
theorem dX11_put_37 : decode cX11_put 37 = .ok (.ifCond .ne 9, 3) := by decide +kernel
theorem dX11_put_40 : decode cX11_put 40 = .ok (.aload_n 0, 1) := by decide +kernel
theorem dX11_put_41 : decode cX11_put 41 = .ok (.iconst 2, 1) := by decide +kernel
theorem dX11_put_42 : decode cX11_put 42 = .ok (.invokevirtual 84, 3) := by decide +kernel
theorem dX11_put_45 : decode cX11_put 45 = .ok (.ireturn, 1) := by decide +kernel
theorem dX11_put_46 : decode cX11_put 46 = .ok (.aload_n 0, 1) := by decide +kernel
theorem dX11_put_47 : decode cX11_put 47 = .ok (.getfield 29, 3) := by decide +kernel
theorem dX11_put_50 : decode cX11_put 50 = .ok (.bipush 60, 2) := by decide +kernel
theorem dX11_put_52 : decode cX11_put 52 = .ok (.iload_n 1, 1) := by decide +kernel
theorem dX11_put_53 : decode cX11_put 53 = .ok (.imul, 1) := by decide +kernel
theorem dX11_put_54 : decode cX11_put 54 = .ok (.iload_n 2, 1) := by decide +kernel
theorem dX11_put_55 : decode cX11_put 55 = .ok (.iadd, 1) := by decide +kernel
theorem dX11_put_56 : decode cX11_put 56 = .ok (.baload, 1) := by decide +kernel
theorem dX11_put_57 : decode cX11_put 57 = .ok (.istore 4, 2) := by decide +kernel
theorem dX11_put_59 : decode cX11_put 59 = .ok (.aload_n 0, 1) := by decide +kernel
theorem dX11_put_60 : decode cX11_put 60 = .ok (.getfield 29, 3) := by decide +kernel
theorem dX11_put_63 : decode cX11_put 63 = .ok (.bipush 60, 2) := by decide +kernel
theorem dX11_put_65 : decode cX11_put 65 = .ok (.iload_n 1, 1) := by decide +kernel
theorem dX11_put_66 : decode cX11_put 66 = .ok (.imul, 1) := by decide +kernel
theorem dX11_put_67 : decode cX11_put 67 = .ok (.iload_n 2, 1) := by decide +kernel
theorem dX11_put_68 : decode cX11_put 68 = .ok (.iadd, 1) := by decide +kernel
theorem dX11_put_69 : decode cX11_put 69 = .ok (.iload_n 3, 1) := by decide +kernel
theorem dX11_put_70 : decode cX11_put 70 = .ok (.i2b, 1) := by decide +kernel
theorem dX11_put_71 : decode cX11_put 71 = .ok (.bastore, 1) := by decide +kernel
theorem dX11_put_72 : decode cX11_put 72 = .ok (.sipush 1000, 3) := by decide +kernel
theorem dX11_put_75 : decode cX11_put 75 = .ok (.iload 4, 2) := by decide +kernel
theorem dX11_put_77 : decode cX11_put 77 = .ok (.iadd, 1) := by decide +kernel
theorem dX11_put_78 : decode cX11_put 78 = .ok (.ireturn, 1) := by decide +kernel
theorem dX11_byteAt_0 : decode cX11_byteAt 0 = .ok (.aload_n 0, 1) := by decide +kernel
theorem dX11_byteAt_1 : decode cX11_byteAt 1 = .ok (.getfield 98, 3) := by decide +kernel
theorem dX11_byteAt_4 : decode cX11_byteAt 4 = .ok (.aload_n 0, 1) := by decide +kernel
theorem dX11_byteAt_5 : decode cX11_byteAt 5 = .ok (.getfield 26, 3) := by decide +kernel
theorem dX11_byteAt_8 : decode cX11_byteAt 8 = .ok (.iload_n 1, 1) := by decide +kernel
theorem dX11_byteAt_9 : decode cX11_byteAt 9 = .ok (.iaload, 1) := by decide +kernel
theorem dX11_byteAt_10 : decode cX11_byteAt 10 = .ok (.if_icmp .ge 20, 3) := by decide +kernel
theorem dX11_byteAt_13 : decode cX11_byteAt 13 = .ok (.aload_n 0, 1) := by decide +kernel
theorem dX11_byteAt_14 : decode cX11_byteAt 14 = .ok (.getfield 29, 3) := by decide +kernel
theorem dX11_byteAt_17 : decode cX11_byteAt 17 = .ok (.bipush 60, 2) := by decide +kernel
theorem dX11_byteAt_19 : decode cX11_byteAt 19 = .ok (.iload_n 1, 1) := by decide +kernel
theorem dX11_byteAt_20 : decode cX11_byteAt 20 = .ok (.imul, 1) := by decide +kernel
theorem dX11_byteAt_21 : decode cX11_byteAt 21 = .ok (.aload_n 0, 1) := by decide +kernel
theorem dX11_byteAt_22 : decode cX11_byteAt 22 = .ok (.getfield 98, 3) := by decide +kernel
theorem dX11_byteAt_25 : decode cX11_byteAt 25 = .ok (.iadd, 1) := by decide +kernel
theorem dX11_byteAt_26 : decode cX11_byteAt 26 = .ok (.baload, 1) := by decide +kernel
theorem dX11_byteAt_27 : decode cX11_byteAt 27 = .ok (.goto 4, 3) := by decide +kernel
theorem dX11_byteAt_30 : decode cX11_byteAt 30 = .ok (.iconst (-1), 1) := by decide +kernel
theorem dX11_byteAt_31 : decode cX11_byteAt 31 = .ok (.ireturn, 1) := by decide +kernel
theorem dX11_kindOf_0 : decode cX11_kindOf 0 = .ok (.iload_n 0, 1) := by decide +kernel
theorem dX11_kindOf_1 : decode cX11_kindOf 1 = .ok (.tableswitch 99 98 115 #[97, 99, 89, 99, 99, 99, 93, 99, 99, 99, 99, 99, 87, 99, 95, 99, 99, 91], 87) := by decide +kernel
theorem dX11_kindOf_88 : decode cX11_kindOf 88 = .ok (.iconst 0, 1) := by decide +kernel
theorem dX11_kindOf_89 : decode cX11_kindOf 89 = .ok (.ireturn, 1) := by decide +kernel
theorem dX11_kindOf_90 : decode cX11_kindOf 90 = .ok (.iconst 1, 1) := by decide +kernel
theorem dX11_kindOf_91 : decode cX11_kindOf 91 = .ok (.ireturn, 1) := by decide +kernel
theorem dX11_kindOf_92 : decode cX11_kindOf 92 = .ok (.iconst 2, 1) := by decide +kernel
theorem dX11_kindOf_93 : decode cX11_kindOf 93 = .ok (.ireturn, 1) := by decide +kernel
theorem dX11_kindOf_94 : decode cX11_kindOf 94 = .ok (.iconst 3, 1) := by decide +kernel
theorem dX11_kindOf_95 : decode cX11_kindOf 95 = .ok (.ireturn, 1) := by decide +kernel
theorem dX11_kindOf_96 : decode cX11_kindOf 96 = .ok (.iconst 4, 1) := by decide +kernel
theorem dX11_kindOf_97 : decode cX11_kindOf 97 = .ok (.ireturn, 1) := by decide +kernel
theorem dX11_kindOf_98 : decode cX11_kindOf 98 = .ok (.iconst 5, 1) := by decide +kernel
theorem dX11_kindOf_99 : decode cX11_kindOf 99 = .ok (.ireturn, 1) := by decide +kernel
theorem dX11_kindOf_100 : decode cX11_kindOf 100 = .ok (.bipush (-9), 2) := by decide +kernel
theorem dX11_kindOf_102 : decode cX11_kindOf 102 = .ok (.ireturn, 1) := by decide +kernel
theorem dX11_figure_0 : decode cX11_figure 0 = .ok (.aload_n 0, 1) := by decide +kernel
theorem dX11_figure_1 : decode cX11_figure 1 = .ok (.iload_n 1, 1) := by decide +kernel
theorem dX11_figure_2 : decode cX11_figure 2 = .ok (.invokevirtual 101, 3) := by decide +kernel
theorem dX11_figure_5 : decode cX11_figure 5 = .ok (.bipush 48, 2) := by decide +kernel
theorem dX11_figure_7 : decode cX11_figure 7 = .ok (.isub, 1) := by decide +kernel
theorem dX11_figure_8 : decode cX11_figure 8 = .ok (.istore_n 3, 1) := by decide +kernel
theorem dX11_figure_9 : decode cX11_figure 9 = .ok (.aload_n 0, 1) := by decide +kernel
theorem dX11_figure_10 : decode cX11_figure 10 = .ok (.iload_n 1, 1) := by decide +kernel
theorem dX11_figure_11 : decode cX11_figure 11 = .ok (.invokevirtual 101, 3) := by decide +kernel
theorem dX11_figure_14 : decode cX11_figure 14 = .ok (.ifCond .lt 12, 3) := by decide +kernel
theorem dX11_figure_17 : decode cX11_figure 17 = .ok (.iload_n 3, 1) := by decide +kernel
theorem dX11_figure_18 : decode cX11_figure 18 = .ok (.iconst 0, 1) := by decide +kernel
theorem dX11_figure_19 : decode cX11_figure 19 = .ok (.iload_n 2, 1) := by decide +kernel
theorem dX11_figure_20 : decode cX11_figure 20 = .ok (.invokestatic 76, 3) := by decide +kernel
theorem dX11_figure_23 : decode cX11_figure 23 = .ok (.ifCond .ne 6, 3) := by decide +kernel
theorem dX11_figure_26 : decode cX11_figure 26 = .ok (.bipush (-9), 2) := by decide +kernel
theorem dX11_figure_28 : decode cX11_figure 28 = .ok (.ireturn, 1) := by decide +kernel
theorem dX11_figure_29 : decode cX11_figure 29 = .ok (.aload_n 0, 1) := by decide +kernel
theorem dX11_figure_30 : decode cX11_figure 30 = .ok (.dup, 1) := by decide +kernel
theorem dX11_figure_31 : decode cX11_figure 31 = .ok (.getfield 98, 3) := by decide +kernel
theorem dX11_figure_34 : decode cX11_figure 34 = .ok (.iconst 1, 1) := by decide +kernel
theorem dX11_figure_35 : decode cX11_figure 35 = .ok (.iadd, 1) := by decide +kernel
theorem dX11_figure_36 : decode cX11_figure 36 = .ok (.putfield 98, 3) := by decide +kernel
theorem dX11_figure_39 : decode cX11_figure 39 = .ok (.iload_n 3, 1) := by decide +kernel
theorem dX11_figure_40 : decode cX11_figure 40 = .ok (.ireturn, 1) := by decide +kernel
theorem dX11_blanks_0 : decode cX11_blanks 0 = .ok (.aload_n 0, 1) := by decide +kernel
theorem dX11_blanks_1 : decode cX11_blanks 1 = .ok (.iload_n 1, 1) := by decide +kernel
theorem dX11_blanks_2 : decode cX11_blanks 2 = .ok (.invokevirtual 101, 3) := by decide +kernel
theorem dX11_blanks_5 : decode cX11_blanks 5 = .ok (.bipush 32, 2) := by decide +kernel
theorem dX11_blanks_7 : decode cX11_blanks 7 = .ok (.if_icmp .ne 16, 3) := by decide +kernel
theorem dX11_blanks_10 : decode cX11_blanks 10 = .ok (.aload_n 0, 1) := by decide +kernel
theorem dX11_blanks_11 : decode cX11_blanks 11 = .ok (.dup, 1) := by decide +kernel
theorem dX11_blanks_12 : decode cX11_blanks 12 = .ok (.getfield 98, 3) := by decide +kernel
theorem dX11_blanks_15 : decode cX11_blanks 15 = .ok (.iconst 1, 1) := by decide +kernel
theorem dX11_blanks_16 : decode cX11_blanks 16 = .ok (.iadd, 1) := by decide +kernel
theorem dX11_blanks_17 : decode cX11_blanks 17 = .ok (.putfield 98, 3) := by decide +kernel
theorem dX11_blanks_20 : decode cX11_blanks 20 = .ok (.goto (-20), 3) := by decide +kernel
theorem dX11_blanks_23 : decode cX11_blanks 23 = .ok (.return_, 1) := by decide +kernel
theorem dX11_readsDeep_0 : decode cX11_readsDeep 0 = .ok (.iconst 0, 1) := by decide +kernel
theorem dX11_readsDeep_1 : decode cX11_readsDeep 1 = .ok (.istore_n 2, 1) := by decide +kernel
theorem dX11_readsDeep_2 : decode cX11_readsDeep 2 = .ok (.iload_n 2, 1) := by decide +kernel
theorem dX11_readsDeep_3 : decode cX11_readsDeep 3 = .ok (.iconst 5, 1) := by decide +kernel
theorem dX11_readsDeep_4 : decode cX11_readsDeep 4 = .ok (.if_icmp .ge 35, 3) := by decide +kernel
theorem dX11_readsDeep_7 : decode cX11_readsDeep 7 = .ok (.aload_n 0, 1) := by decide +kernel
theorem dX11_readsDeep_8 : decode cX11_readsDeep 8 = .ok (.getfield 33, 3) := by decide +kernel
theorem dX11_readsDeep_11 : decode cX11_readsDeep 11 = .ok (.iload_n 2, 1) := by decide +kernel
theorem dX11_readsDeep_12 : decode cX11_readsDeep 12 = .ok (.aload_n 0, 1) := by decide +kernel
theorem dX11_readsDeep_13 : decode cX11_readsDeep 13 = .ok (.iload_n 1, 1) := by decide +kernel
theorem dX11_readsDeep_14 : decode cX11_readsDeep 14 = .ok (.bipush 9, 2) := by decide +kernel
theorem dX11_readsDeep_16 : decode cX11_readsDeep 16 = .ok (.invokevirtual 104, 3) := by decide +kernel
theorem dX11_readsDeep_19 : decode cX11_readsDeep 19 = .ok (.iastore, 1) := by decide +kernel
theorem dX11_readsDeep_20 : decode cX11_readsDeep 20 = .ok (.aload_n 0, 1) := by decide +kernel
theorem dX11_readsDeep_21 : decode cX11_readsDeep 21 = .ok (.getfield 33, 3) := by decide +kernel
theorem dX11_readsDeep_24 : decode cX11_readsDeep 24 = .ok (.iload_n 2, 1) := by decide +kernel
theorem dX11_readsDeep_25 : decode cX11_readsDeep 25 = .ok (.iaload, 1) := by decide +kernel
theorem dX11_readsDeep_26 : decode cX11_readsDeep 26 = .ok (.bipush (-9), 2) := by decide +kernel
theorem dX11_readsDeep_28 : decode cX11_readsDeep 28 = .ok (.if_icmp .ne 5, 3) := by decide +kernel
theorem dX11_readsDeep_31 : decode cX11_readsDeep 31 = .ok (.iconst 0, 1) := by decide +kernel
theorem dX11_readsDeep_32 : decode cX11_readsDeep 32 = .ok (.ireturn, 1) := by decide +kernel
theorem dX11_readsDeep_33 : decode cX11_readsDeep 33 = .ok (.iinc 2 1, 3) := by decide +kernel
theorem dX11_readsDeep_36 : decode cX11_readsDeep 36 = .ok (.goto (-34), 3) := by decide +kernel
theorem dX11_readsDeep_39 : decode cX11_readsDeep 39 = .ok (.iconst 1, 1) := by decide +kernel
theorem dX11_readsDeep_40 : decode cX11_readsDeep 40 = .ok (.ireturn, 1) := by decide +kernel
theorem dX11_readsOne_0 : decode cX11_readsOne 0 = .ok (.aload_n 0, 1) := by decide +kernel
theorem dX11_readsOne_1 : decode cX11_readsOne 1 = .ok (.iload_n 1, 1) := by decide +kernel
theorem dX11_readsOne_2 : decode cX11_readsOne 2 = .ok (.invokevirtual 101, 3) := by decide +kernel
theorem dX11_readsOne_5 : decode cX11_readsOne 5 = .ok (.invokestatic 107, 3) := by decide +kernel
theorem dX11_readsOne_8 : decode cX11_readsOne 8 = .ok (.istore_n 2, 1) := by decide +kernel
theorem dX11_readsOne_9 : decode cX11_readsOne 9 = .ok (.iload_n 2, 1) := by decide +kernel
theorem dX11_readsOne_10 : decode cX11_readsOne 10 = .ok (.bipush (-9), 2) := by decide +kernel
theorem dX11_readsOne_12 : decode cX11_readsOne 12 = .ok (.if_icmp .eq 12, 3) := by decide +kernel
theorem dX11_readsOne_15 : decode cX11_readsOne 15 = .ok (.aload_n 0, 1) := by decide +kernel
theorem dX11_readsOne_16 : decode cX11_readsOne 16 = .ok (.getfield 110, 3) := by decide +kernel
theorem dX11_readsOne_19 : decode cX11_readsOne 19 = .ok (.bipush 7, 2) := by decide +kernel
theorem dX11_readsOne_21 : decode cX11_readsOne 21 = .ok (.if_icmp .ne 5, 3) := by decide +kernel
theorem dX11_readsOne_24 : decode cX11_readsOne 24 = .ok (.iconst 0, 1) := by decide +kernel
theorem dX11_readsOne_25 : decode cX11_readsOne 25 = .ok (.ireturn, 1) := by decide +kernel
theorem dX11_readsOne_26 : decode cX11_readsOne 26 = .ok (.aload_n 0, 1) := by decide +kernel
theorem dX11_readsOne_27 : decode cX11_readsOne 27 = .ok (.dup, 1) := by decide +kernel
theorem dX11_readsOne_28 : decode cX11_readsOne 28 = .ok (.getfield 98, 3) := by decide +kernel
theorem dX11_readsOne_31 : decode cX11_readsOne 31 = .ok (.iconst 1, 1) := by decide +kernel
theorem dX11_readsOne_32 : decode cX11_readsOne 32 = .ok (.iadd, 1) := by decide +kernel
theorem dX11_readsOne_33 : decode cX11_readsOne 33 = .ok (.putfield 98, 3) := by decide +kernel
theorem dX11_readsOne_36 : decode cX11_readsOne 36 = .ok (.aload_n 0, 1) := by decide +kernel
theorem dX11_readsOne_37 : decode cX11_readsOne 37 = .ok (.getfield 36, 3) := by decide +kernel
theorem dX11_readsOne_40 : decode cX11_readsOne 40 = .ok (.iconst 5, 1) := by decide +kernel
theorem dX11_readsOne_41 : decode cX11_readsOne 41 = .ok (.aload_n 0, 1) := by decide +kernel
theorem dX11_readsOne_42 : decode cX11_readsOne 42 = .ok (.getfield 110, 3) := by decide +kernel
theorem dX11_readsOne_45 : decode cX11_readsOne 45 = .ok (.imul, 1) := by decide +kernel
theorem dX11_readsOne_46 : decode cX11_readsOne 46 = .ok (.iload_n 2, 1) := by decide +kernel
theorem dX11_readsOne_47 : decode cX11_readsOne 47 = .ok (.iastore, 1) := by decide +kernel
theorem dX11_readsOne_48 : decode cX11_readsOne 48 = .ok (.iconst 1, 1) := by decide +kernel
theorem dX11_readsOne_49 : decode cX11_readsOne 49 = .ok (.istore_n 3, 1) := by decide +kernel
theorem dX11_readsOne_50 : decode cX11_readsOne 50 = .ok (.iload_n 3, 1) := by decide +kernel
theorem dX11_readsOne_51 : decode cX11_readsOne 51 = .ok (.iconst 5, 1) := by decide +kernel
theorem dX11_readsOne_52 : decode cX11_readsOne 52 = .ok (.if_icmp .ge 51, 3) := by decide +kernel
theorem dX11_readsOne_55 : decode cX11_readsOne 55 = .ok (.aload_n 0, 1) := by decide +kernel
theorem dX11_readsOne_56 : decode cX11_readsOne 56 = .ok (.iload_n 1, 1) := by decide +kernel
theorem dX11_readsOne_57 : decode cX11_readsOne 57 = .ok (.iload_n 3, 1) := by decide +kernel
theorem dX11_readsOne_58 : decode cX11_readsOne 58 = .ok (.iconst 4, 1) := by decide +kernel
theorem dX11_readsOne_59 : decode cX11_readsOne 59 = .ok (.if_icmp .ne 7, 3) := by decide +kernel
theorem dX11_readsOne_62 : decode cX11_readsOne 62 = .ok (.iconst 4, 1) := by decide +kernel
theorem dX11_readsOne_63 : decode cX11_readsOne 63 = .ok (.goto 5, 3) := by decide +kernel
theorem dX11_readsOne_66 : decode cX11_readsOne 66 = .ok (.bipush 9, 2) := by decide +kernel
theorem dX11_readsOne_68 : decode cX11_readsOne 68 = .ok (.invokevirtual 104, 3) := by decide +kernel
theorem dX11_readsOne_71 : decode cX11_readsOne 71 = .ok (.istore 4, 2) := by decide +kernel
theorem dX11_readsOne_73 : decode cX11_readsOne 73 = .ok (.iload 4, 2) := by decide +kernel
theorem dX11_readsOne_75 : decode cX11_readsOne 75 = .ok (.bipush (-9), 2) := by decide +kernel
theorem dX11_readsOne_77 : decode cX11_readsOne 77 = .ok (.if_icmp .ne 5, 3) := by decide +kernel
theorem dX11_readsOne_80 : decode cX11_readsOne 80 = .ok (.iconst 0, 1) := by decide +kernel
theorem dX11_readsOne_81 : decode cX11_readsOne 81 = .ok (.ireturn, 1) := by decide +kernel
theorem dX11_readsOne_82 : decode cX11_readsOne 82 = .ok (.aload_n 0, 1) := by decide +kernel
theorem dX11_readsOne_83 : decode cX11_readsOne 83 = .ok (.getfield 36, 3) := by decide +kernel
theorem dX11_readsOne_86 : decode cX11_readsOne 86 = .ok (.iconst 5, 1) := by decide +kernel
theorem dX11_readsOne_87 : decode cX11_readsOne 87 = .ok (.aload_n 0, 1) := by decide +kernel
theorem dX11_readsOne_88 : decode cX11_readsOne 88 = .ok (.getfield 110, 3) := by decide +kernel
theorem dX11_readsOne_91 : decode cX11_readsOne 91 = .ok (.imul, 1) := by decide +kernel
theorem dX11_readsOne_92 : decode cX11_readsOne 92 = .ok (.iload_n 3, 1) := by decide +kernel
theorem dX11_readsOne_93 : decode cX11_readsOne 93 = .ok (.iadd, 1) := by decide +kernel
theorem dX11_readsOne_94 : decode cX11_readsOne 94 = .ok (.iload 4, 2) := by decide +kernel
theorem dX11_readsOne_96 : decode cX11_readsOne 96 = .ok (.iastore, 1) := by decide +kernel
theorem dX11_readsOne_97 : decode cX11_readsOne 97 = .ok (.iinc 3 1, 3) := by decide +kernel
theorem dX11_readsOne_100 : decode cX11_readsOne 100 = .ok (.goto (-50), 3) := by decide +kernel
theorem dX11_readsOne_103 : decode cX11_readsOne 103 = .ok (.aload_n 0, 1) := by decide +kernel
theorem dX11_readsOne_104 : decode cX11_readsOne 104 = .ok (.dup, 1) := by decide +kernel
theorem dX11_readsOne_105 : decode cX11_readsOne 105 = .ok (.getfield 110, 3) := by decide +kernel
theorem dX11_readsOne_108 : decode cX11_readsOne 108 = .ok (.iconst 1, 1) := by decide +kernel
theorem dX11_readsOne_109 : decode cX11_readsOne 109 = .ok (.iadd, 1) := by decide +kernel
theorem dX11_readsOne_110 : decode cX11_readsOne 110 = .ok (.putfield 110, 3) := by decide +kernel
theorem dX11_readsOne_113 : decode cX11_readsOne 113 = .ok (.iconst 1, 1) := by decide +kernel
theorem dX11_readsOne_114 : decode cX11_readsOne 114 = .ok (.ireturn, 1) := by decide +kernel
theorem dX11_faultOf_0 : decode cX11_faultOf 0 = .ok (.aload_n 0, 1) := by decide +kernel
theorem dX11_faultOf_1 : decode cX11_faultOf 1 = .ok (.iconst 0, 1) := by decide +kernel
theorem dX11_faultOf_2 : decode cX11_faultOf 2 = .ok (.putfield 98, 3) := by decide +kernel
theorem dX11_faultOf_5 : decode cX11_faultOf 5 = .ok (.aload_n 0, 1) := by decide +kernel
theorem dX11_faultOf_6 : decode cX11_faultOf 6 = .ok (.iconst 0, 1) := by decide +kernel
theorem dX11_faultOf_7 : decode cX11_faultOf 7 = .ok (.putfield 110, 3) := by decide +kernel
theorem dX11_faultOf_10 : decode cX11_faultOf 10 = .ok (.aload_n 0, 1) := by decide +kernel
theorem dX11_faultOf_11 : decode cX11_faultOf 11 = .ok (.iload_n 1, 1) := by decide +kernel
theorem dX11_faultOf_12 : decode cX11_faultOf 12 = .ok (.invokevirtual 113, 3) := by decide +kernel
theorem dX11_faultOf_15 : decode cX11_faultOf 15 = .ok (.aload_n 0, 1) := by decide +kernel
theorem dX11_faultOf_16 : decode cX11_faultOf 16 = .ok (.getfield 98, 3) := by decide +kernel
theorem dX11_faultOf_19 : decode cX11_faultOf 19 = .ok (.aload_n 0, 1) := by decide +kernel
theorem dX11_faultOf_20 : decode cX11_faultOf 20 = .ok (.getfield 26, 3) := by decide +kernel
theorem dX11_faultOf_23 : decode cX11_faultOf 23 = .ok (.iload_n 1, 1) := by decide +kernel
theorem dX11_faultOf_24 : decode cX11_faultOf 24 = .ok (.iaload, 1) := by decide +kernel
theorem dX11_faultOf_25 : decode cX11_faultOf 25 = .ok (.if_icmp .eq 11, 3) := by decide +kernel
theorem dX11_faultOf_28 : decode cX11_faultOf 28 = .ok (.aload_n 0, 1) := by decide +kernel
theorem dX11_faultOf_29 : decode cX11_faultOf 29 = .ok (.iload_n 1, 1) := by decide +kernel
theorem dX11_faultOf_30 : decode cX11_faultOf 30 = .ok (.invokevirtual 117, 3) := by decide +kernel
theorem dX11_faultOf_33 : decode cX11_faultOf 33 = .ok (.ifCond .ne 8, 3) := by decide +kernel
theorem dX11_faultOf_36 : decode cX11_faultOf 36 = .ok (.aload_n 0, 1) := by decide +kernel
theorem dX11_faultOf_37 : decode cX11_faultOf 37 = .ok (.getfield 98, 3) := by decide +kernel
theorem dX11_faultOf_40 : decode cX11_faultOf 40 = .ok (.ireturn, 1) := by decide +kernel
theorem dX11_faultOf_41 : decode cX11_faultOf 41 = .ok (.aload_n 0, 1) := by decide +kernel
theorem dX11_faultOf_42 : decode cX11_faultOf 42 = .ok (.iload_n 1, 1) := by decide +kernel
theorem dX11_faultOf_43 : decode cX11_faultOf 43 = .ok (.invokevirtual 113, 3) := by decide +kernel
theorem dX11_faultOf_46 : decode cX11_faultOf 46 = .ok (.aload_n 0, 1) := by decide +kernel
theorem dX11_faultOf_47 : decode cX11_faultOf 47 = .ok (.getfield 98, 3) := by decide +kernel
theorem dX11_faultOf_50 : decode cX11_faultOf 50 = .ok (.aload_n 0, 1) := by decide +kernel
theorem dX11_faultOf_51 : decode cX11_faultOf 51 = .ok (.getfield 26, 3) := by decide +kernel
theorem dX11_faultOf_54 : decode cX11_faultOf 54 = .ok (.iload_n 1, 1) := by decide +kernel
theorem dX11_faultOf_55 : decode cX11_faultOf 55 = .ok (.iaload, 1) := by decide +kernel
theorem dX11_faultOf_56 : decode cX11_faultOf 56 = .ok (.if_icmp .ge 24, 3) := by decide +kernel
theorem dX11_faultOf_59 : decode cX11_faultOf 59 = .ok (.aload_n 0, 1) := by decide +kernel
theorem dX11_faultOf_60 : decode cX11_faultOf 60 = .ok (.iload_n 1, 1) := by decide +kernel
theorem dX11_faultOf_61 : decode cX11_faultOf 61 = .ok (.invokevirtual 120, 3) := by decide +kernel
theorem dX11_faultOf_64 : decode cX11_faultOf 64 = .ok (.ifCond .ne 8, 3) := by decide +kernel
theorem dX11_faultOf_67 : decode cX11_faultOf 67 = .ok (.aload_n 0, 1) := by decide +kernel
theorem dX11_faultOf_68 : decode cX11_faultOf 68 = .ok (.getfield 98, 3) := by decide +kernel
theorem dX11_faultOf_71 : decode cX11_faultOf 71 = .ok (.ireturn, 1) := by decide +kernel
theorem dX11_faultOf_72 : decode cX11_faultOf 72 = .ok (.aload_n 0, 1) := by decide +kernel
theorem dX11_faultOf_73 : decode cX11_faultOf 73 = .ok (.iload_n 1, 1) := by decide +kernel
theorem dX11_faultOf_74 : decode cX11_faultOf 74 = .ok (.invokevirtual 113, 3) := by decide +kernel
theorem dX11_faultOf_77 : decode cX11_faultOf 77 = .ok (.goto (-31), 3) := by decide +kernel
theorem dX11_faultOf_80 : decode cX11_faultOf 80 = .ok (.aload_n 0, 1) := by decide +kernel
theorem dX11_faultOf_81 : decode cX11_faultOf 81 = .ok (.getfield 110, 3) := by decide +kernel
theorem dX11_faultOf_84 : decode cX11_faultOf 84 = .ok (.iconst 2, 1) := by decide +kernel
theorem dX11_faultOf_85 : decode cX11_faultOf 85 = .ok (.if_icmp .ge 12, 3) := by decide +kernel
theorem dX11_faultOf_88 : decode cX11_faultOf 88 = .ok (.aload_n 0, 1) := by decide +kernel
theorem dX11_faultOf_89 : decode cX11_faultOf 89 = .ok (.getfield 26, 3) := by decide +kernel
theorem dX11_faultOf_92 : decode cX11_faultOf 92 = .ok (.iload_n 1, 1) := by decide +kernel
theorem dX11_faultOf_93 : decode cX11_faultOf 93 = .ok (.iaload, 1) := by decide +kernel
theorem dX11_faultOf_94 : decode cX11_faultOf 94 = .ok (.goto 5, 3) := by decide +kernel
theorem dX11_faultOf_97 : decode cX11_faultOf 97 = .ok (.bipush (-9), 2) := by decide +kernel
theorem dX11_faultOf_99 : decode cX11_faultOf 99 = .ok (.ireturn, 1) := by decide +kernel
theorem dX11_fault_0 : decode cX11_fault 0 = .ok (.iload_n 1, 1) := by decide +kernel
theorem dX11_fault_1 : decode cX11_fault 1 = .ok (.invokestatic 95, 3) := by decide +kernel
theorem dX11_fault_4 : decode cX11_fault 4 = .ok (.ifCond .ne 7, 3) := by decide +kernel
theorem dX11_fault_7 : decode cX11_fault 7 = .ok (.iconst (-1), 1) := by decide +kernel
theorem dX11_fault_8 : decode cX11_fault 8 = .ok (.goto 25, 3) := by decide +kernel
theorem dX11_fault_11 : decode cX11_fault 11 = .ok (.aload_n 0, 1) := by decide +kernel
theorem dX11_fault_12 : decode cX11_fault 12 = .ok (.getfield 26, 3) := by decide +kernel
theorem dX11_fault_15 : decode cX11_fault 15 = .ok (.iload_n 1, 1) := by decide +kernel
theorem dX11_fault_16 : decode cX11_fault 16 = .ok (.iaload, 1) := by decide +kernel
theorem dX11_fault_17 : decode cX11_fault 17 = .ok (.ifCond .ge 11, 3) := by decide +kernel
theorem dX11_fault_20 : decode cX11_fault 20 = .ok (.aload_n 0, 1) := by decide +kernel
theorem dX11_fault_21 : decode cX11_fault 21 = .ok (.iconst 1, 1) := by decide +kernel
theorem dX11_fault_22 : decode cX11_fault 22 = .ok (.invokevirtual 84, 3) := by decide +kernel
theorem dX11_fault_25 : decode cX11_fault 25 = .ok (.goto 8, 3) := by decide +kernel
theorem dX11_fault_28 : decode cX11_fault 28 = .ok (.aload_n 0, 1) := by decide +kernel
theorem dX11_fault_29 : decode cX11_fault 29 = .ok (.iload_n 1, 1) := by decide +kernel
theorem dX11_fault_30 : decode cX11_fault 30 = .ok (.invokevirtual 123, 3) := by decide +kernel
theorem dX11_fault_33 : decode cX11_fault 33 = .ok (.ireturn, 1) := by decide +kernel
theorem dX11_town_0 : decode cX11_town 0 = .ok (.iload_n 1, 1) := by decide +kernel
theorem dX11_town_1 : decode cX11_town 1 = .ok (.invokestatic 95, 3) := by decide +kernel
theorem dX11_town_4 : decode cX11_town 4 = .ok (.ifCond .ne 5, 3) := by decide +kernel
theorem dX11_town_7 : decode cX11_town 7 = .ok (.iconst (-1), 1) := by decide +kernel
theorem dX11_town_8 : decode cX11_town 8 = .ok (.ireturn, 1) := by decide +kernel
theorem dX11_town_9 : decode cX11_town 9 = .ok (.aload_n 0, 1) := by decide +kernel
theorem dX11_town_10 : decode cX11_town 10 = .ok (.getfield 26, 3) := by decide +kernel
theorem dX11_town_13 : decode cX11_town 13 = .ok (.iload_n 1, 1) := by decide +kernel
theorem dX11_town_14 : decode cX11_town 14 = .ok (.iaload, 1) := by decide +kernel
theorem dX11_town_15 : decode cX11_town 15 = .ok (.ifCond .ge 9, 3) := by decide +kernel
theorem dX11_town_18 : decode cX11_town 18 = .ok (.aload_n 0, 1) := by decide +kernel
theorem dX11_town_19 : decode cX11_town 19 = .ok (.iconst 1, 1) := by decide +kernel
theorem dX11_town_20 : decode cX11_town 20 = .ok (.invokevirtual 84, 3) := by decide +kernel
theorem dX11_town_23 : decode cX11_town 23 = .ok (.ireturn, 1) := by decide +kernel
theorem dX11_town_24 : decode cX11_town 24 = .ok (.aload_n 0, 1) := by decide +kernel
theorem dX11_town_25 : decode cX11_town 25 = .ok (.iload_n 1, 1) := by decide +kernel
theorem dX11_town_26 : decode cX11_town 26 = .ok (.invokevirtual 123, 3) := by decide +kernel
theorem dX11_town_29 : decode cX11_town 29 = .ok (.bipush (-9), 2) := by decide +kernel
theorem dX11_town_31 : decode cX11_town 31 = .ok (.if_icmp .eq 6, 3) := by decide +kernel
theorem dX11_town_34 : decode cX11_town 34 = .ok (.bipush (-4), 2) := by decide +kernel
theorem dX11_town_36 : decode cX11_town 36 = .ok (.ireturn, 1) := by decide +kernel
theorem dX11_town_37 : decode cX11_town 37 = .ok (.aload_n 0, 1) := by decide +kernel
theorem dX11_town_38 : decode cX11_town 38 = .ok (.aload_n 0, 1) := by decide +kernel
theorem dX11_town_39 : decode cX11_town 39 = .ok (.getfield 110, 3) := by decide +kernel
theorem dX11_town_42 : decode cX11_town 42 = .ok (.putfield 126, 3) := by decide +kernel
theorem dX11_town_45 : decode cX11_town 45 = .ok (.aload_n 0, 1) := by decide +kernel
theorem dX11_town_46 : decode cX11_town 46 = .ok (.getfield 48, 3) := by decide +kernel
theorem dX11_town_49 : decode cX11_town 49 = .ok (.iconst 0, 1) := by decide +kernel
theorem dX11_town_50 : decode cX11_town 50 = .ok (.iconst 0, 1) := by decide +kernel
theorem dX11_town_51 : decode cX11_town 51 = .ok (.iastore, 1) := by decide +kernel
theorem dX11_town_52 : decode cX11_town 52 = .ok (.iconst 0, 1) := by decide +kernel
theorem dX11_town_53 : decode cX11_town 53 = .ok (.istore_n 2, 1) := by decide +kernel
theorem dX11_town_54 : decode cX11_town 54 = .ok (.iload_n 2, 1) := by decide +kernel
theorem dX11_town_55 : decode cX11_town 55 = .ok (.iconst 5, 1) := by decide +kernel
theorem dX11_town_56 : decode cX11_town 56 = .ok (.if_icmp .ge 23, 3) := by decide +kernel
theorem dX11_town_59 : decode cX11_town 59 = .ok (.aload_n 0, 1) := by decide +kernel
theorem dX11_town_60 : decode cX11_town 60 = .ok (.getfield 48, 3) := by decide +kernel
theorem dX11_town_63 : decode cX11_town 63 = .ok (.iconst 1, 1) := by decide +kernel
theorem dX11_town_64 : decode cX11_town 64 = .ok (.iload_n 2, 1) := by decide +kernel
theorem dX11_town_65 : decode cX11_town 65 = .ok (.iadd, 1) := by decide +kernel
theorem dX11_town_66 : decode cX11_town 66 = .ok (.aload_n 0, 1) := by decide +kernel
theorem dX11_town_67 : decode cX11_town 67 = .ok (.getfield 33, 3) := by decide +kernel
theorem dX11_town_70 : decode cX11_town 70 = .ok (.iload_n 2, 1) := by decide +kernel
theorem dX11_town_71 : decode cX11_town 71 = .ok (.iaload, 1) := by decide +kernel
theorem dX11_town_72 : decode cX11_town 72 = .ok (.iastore, 1) := by decide +kernel
theorem dX11_town_73 : decode cX11_town 73 = .ok (.iinc 2 1, 3) := by decide +kernel
theorem dX11_town_76 : decode cX11_town 76 = .ok (.goto (-22), 3) := by decide +kernel
theorem dX11_town_79 : decode cX11_town 79 = .ok (.iconst 0, 1) := by decide +kernel
theorem dX11_town_80 : decode cX11_town 80 = .ok (.istore_n 2, 1) := by decide +kernel
theorem dX11_town_81 : decode cX11_town 81 = .ok (.iload_n 2, 1) := by decide +kernel
theorem dX11_town_82 : decode cX11_town 82 = .ok (.aload_n 0, 1) := by decide +kernel
theorem dX11_town_83 : decode cX11_town 83 = .ok (.getfield 126, 3) := by decide +kernel
theorem dX11_town_86 : decode cX11_town 86 = .ok (.if_icmp .ge 100, 3) := by decide +kernel
theorem dX11_town_89 : decode cX11_town 89 = .ok (.aload_n 0, 1) := by decide +kernel
theorem dX11_town_90 : decode cX11_town 90 = .ok (.getfield 39, 3) := by decide +kernel
theorem dX11_town_93 : decode cX11_town 93 = .ok (.iload_n 2, 1) := by decide +kernel
theorem dX11_town_94 : decode cX11_town 94 = .ok (.aload_n 0, 1) := by decide +kernel
theorem dX11_town_95 : decode cX11_town 95 = .ok (.getfield 36, 3) := by decide +kernel
theorem dX11_town_98 : decode cX11_town 98 = .ok (.iconst 5, 1) := by decide +kernel
theorem dX11_town_99 : decode cX11_town 99 = .ok (.iload_n 2, 1) := by decide +kernel
theorem dX11_town_100 : decode cX11_town 100 = .ok (.imul, 1) := by decide +kernel
theorem dX11_town_101 : decode cX11_town 101 = .ok (.iaload, 1) := by decide +kernel
theorem dX11_town_102 : decode cX11_town 102 = .ok (.iastore, 1) := by decide +kernel
theorem dX11_town_103 : decode cX11_town 103 = .ok (.aload_n 0, 1) := by decide +kernel
theorem dX11_town_104 : decode cX11_town 104 = .ok (.getfield 42, 3) := by decide +kernel
theorem dX11_town_107 : decode cX11_town 107 = .ok (.iload_n 2, 1) := by decide +kernel
theorem dX11_town_108 : decode cX11_town 108 = .ok (.aload_n 0, 1) := by decide +kernel
theorem dX11_town_109 : decode cX11_town 109 = .ok (.getfield 36, 3) := by decide +kernel
theorem dX11_town_112 : decode cX11_town 112 = .ok (.iconst 5, 1) := by decide +kernel
theorem dX11_town_113 : decode cX11_town 113 = .ok (.iload_n 2, 1) := by decide +kernel
theorem dX11_town_114 : decode cX11_town 114 = .ok (.imul, 1) := by decide +kernel
theorem dX11_town_115 : decode cX11_town 115 = .ok (.iconst 1, 1) := by decide +kernel
theorem dX11_town_116 : decode cX11_town 116 = .ok (.iadd, 1) := by decide +kernel
theorem dX11_town_117 : decode cX11_town 117 = .ok (.iaload, 1) := by decide +kernel
theorem dX11_town_118 : decode cX11_town 118 = .ok (.iastore, 1) := by decide +kernel
theorem dX11_town_119 : decode cX11_town 119 = .ok (.aload_n 0, 1) := by decide +kernel
theorem dX11_town_120 : decode cX11_town 120 = .ok (.getfield 45, 3) := by decide +kernel
theorem dX11_town_123 : decode cX11_town 123 = .ok (.iload_n 2, 1) := by decide +kernel
theorem dX11_town_124 : decode cX11_town 124 = .ok (.iload_n 2, 1) := by decide +kernel
theorem dX11_town_125 : decode cX11_town 125 = .ok (.aload_n 0, 1) := by decide +kernel
theorem dX11_town_126 : decode cX11_town 126 = .ok (.getfield 36, 3) := by decide +kernel
theorem dX11_town_129 : decode cX11_town 129 = .ok (.iconst 5, 1) := by decide +kernel
theorem dX11_town_130 : decode cX11_town 130 = .ok (.iload_n 2, 1) := by decide +kernel
theorem dX11_town_131 : decode cX11_town 131 = .ok (.imul, 1) := by decide +kernel
theorem dX11_town_132 : decode cX11_town 132 = .ok (.iconst 2, 1) := by decide +kernel
theorem dX11_town_133 : decode cX11_town 133 = .ok (.iadd, 1) := by decide +kernel
theorem dX11_town_134 : decode cX11_town 134 = .ok (.iaload, 1) := by decide +kernel
theorem dX11_town_135 : decode cX11_town 135 = .ok (.iadd, 1) := by decide +kernel
theorem dX11_town_136 : decode cX11_town 136 = .ok (.aload_n 0, 1) := by decide +kernel
theorem dX11_town_137 : decode cX11_town 137 = .ok (.getfield 126, 3) := by decide +kernel
theorem dX11_town_140 : decode cX11_town 140 = .ok (.irem, 1) := by decide +kernel
theorem dX11_town_141 : decode cX11_town 141 = .ok (.iastore, 1) := by decide +kernel
theorem dX11_town_142 : decode cX11_town 142 = .ok (.aload_n 0, 1) := by decide +kernel
theorem dX11_town_143 : decode cX11_town 143 = .ok (.getfield 48, 3) := by decide +kernel
theorem dX11_town_146 : decode cX11_town 146 = .ok (.bipush 6, 2) := by decide +kernel
theorem dX11_town_148 : decode cX11_town 148 = .ok (.iload_n 2, 1) := by decide +kernel
theorem dX11_town_149 : decode cX11_town 149 = .ok (.iadd, 1) := by decide +kernel
theorem dX11_town_150 : decode cX11_town 150 = .ok (.aload_n 0, 1) := by decide +kernel
theorem dX11_town_151 : decode cX11_town 151 = .ok (.getfield 36, 3) := by decide +kernel
theorem dX11_town_154 : decode cX11_town 154 = .ok (.iconst 5, 1) := by decide +kernel
theorem dX11_town_155 : decode cX11_town 155 = .ok (.iload_n 2, 1) := by decide +kernel
theorem dX11_town_156 : decode cX11_town 156 = .ok (.imul, 1) := by decide +kernel
theorem dX11_town_157 : decode cX11_town 157 = .ok (.iconst 3, 1) := by decide +kernel
theorem dX11_town_158 : decode cX11_town 158 = .ok (.iadd, 1) := by decide +kernel
theorem dX11_town_159 : decode cX11_town 159 = .ok (.iaload, 1) := by decide +kernel
theorem dX11_town_160 : decode cX11_town 160 = .ok (.iastore, 1) := by decide +kernel
theorem dX11_town_161 : decode cX11_town 161 = .ok (.aload_n 0, 1) := by decide +kernel
theorem dX11_town_162 : decode cX11_town 162 = .ok (.getfield 48, 3) := by decide +kernel
theorem dX11_town_165 : decode cX11_town 165 = .ok (.bipush 13, 2) := by decide +kernel
theorem dX11_town_167 : decode cX11_town 167 = .ok (.iload_n 2, 1) := by decide +kernel
theorem dX11_town_168 : decode cX11_town 168 = .ok (.iadd, 1) := by decide +kernel
theorem dX11_town_169 : decode cX11_town 169 = .ok (.aload_n 0, 1) := by decide +kernel
theorem dX11_town_170 : decode cX11_town 170 = .ok (.getfield 36, 3) := by decide +kernel
theorem dX11_town_173 : decode cX11_town 173 = .ok (.iconst 5, 1) := by decide +kernel
theorem dX11_town_174 : decode cX11_town 174 = .ok (.iload_n 2, 1) := by decide +kernel
theorem dX11_town_175 : decode cX11_town 175 = .ok (.imul, 1) := by decide +kernel
theorem dX11_town_176 : decode cX11_town 176 = .ok (.iconst 4, 1) := by decide +kernel
theorem dX11_town_177 : decode cX11_town 177 = .ok (.iadd, 1) := by decide +kernel
theorem dX11_town_178 : decode cX11_town 178 = .ok (.iaload, 1) := by decide +kernel
theorem dX11_town_179 : decode cX11_town 179 = .ok (.iastore, 1) := by decide +kernel
theorem dX11_town_180 : decode cX11_town 180 = .ok (.iinc 2 1, 3) := by decide +kernel
theorem dX11_town_183 : decode cX11_town 183 = .ok (.goto (-102), 3) := by decide +kernel
theorem dX11_town_186 : decode cX11_town 186 = .ok (.aload_n 0, 1) := by decide +kernel
theorem dX11_town_187 : decode cX11_town 187 = .ok (.iconst 0, 1) := by decide +kernel
theorem dX11_town_188 : decode cX11_town 188 = .ok (.putfield 129, 3) := by decide +kernel
theorem dX11_town_191 : decode cX11_town 191 = .ok (.iconst 0, 1) := by decide +kernel
theorem dX11_town_192 : decode cX11_town 192 = .ok (.istore_n 2, 1) := by decide +kernel
theorem dX11_town_193 : decode cX11_town 193 = .ok (.iload_n 2, 1) := by decide +kernel
theorem dX11_town_194 : decode cX11_town 194 = .ok (.iconst 3, 1) := by decide +kernel
theorem dX11_town_195 : decode cX11_town 195 = .ok (.if_icmp .ge 16, 3) := by decide +kernel
theorem dX11_town_198 : decode cX11_town 198 = .ok (.aload_n 0, 1) := by decide +kernel
theorem dX11_town_199 : decode cX11_town 199 = .ok (.getfield 57, 3) := by decide +kernel
theorem dX11_town_202 : decode cX11_town 202 = .ok (.iload_n 2, 1) := by decide +kernel
theorem dX11_town_203 : decode cX11_town 203 = .ok (.iconst (-1), 1) := by decide +kernel
theorem dX11_town_204 : decode cX11_town 204 = .ok (.iastore, 1) := by decide +kernel
theorem dX11_town_205 : decode cX11_town 205 = .ok (.iinc 2 1, 3) := by decide +kernel
theorem dX11_town_208 : decode cX11_town 208 = .ok (.goto (-15), 3) := by decide +kernel
theorem dX11_town_211 : decode cX11_town 211 = .ok (.aload_n 0, 1) := by decide +kernel
theorem dX11_town_212 : decode cX11_town 212 = .ok (.getfield 126, 3) := by decide +kernel
theorem dX11_town_215 : decode cX11_town 215 = .ok (.ireturn, 1) := by decide +kernel
theorem dX11_isOne_0 : decode cX11_isOne 0 = .ok (.iload_n 1, 1) := by decide +kernel
theorem dX11_isOne_1 : decode cX11_isOne 1 = .ok (.iconst 0, 1) := by decide +kernel
theorem dX11_isOne_2 : decode cX11_isOne 2 = .ok (.aload_n 0, 1) := by decide +kernel
theorem dX11_isOne_3 : decode cX11_isOne 3 = .ok (.getfield 126, 3) := by decide +kernel
theorem dX11_isOne_6 : decode cX11_isOne 6 = .ok (.iconst 1, 1) := by decide +kernel
theorem dX11_isOne_7 : decode cX11_isOne 7 = .ok (.isub, 1) := by decide +kernel
theorem dX11_isOne_8 : decode cX11_isOne 8 = .ok (.invokestatic 76, 3) := by decide +kernel
theorem dX11_isOne_11 : decode cX11_isOne 11 = .ok (.ireturn, 1) := by decide +kernel
theorem dX11_isStreet_0 : decode cX11_isStreet 0 = .ok (.iload_n 0, 1) := by decide +kernel
theorem dX11_isStreet_1 : decode cX11_isStreet 1 = .ok (.iconst 0, 1) := by decide +kernel
theorem dX11_isStreet_2 : decode cX11_isStreet 2 = .ok (.iconst 4, 1) := by decide +kernel
theorem dX11_isStreet_3 : decode cX11_isStreet 3 = .ok (.invokestatic 76, 3) := by decide +kernel
theorem dX11_isStreet_6 : decode cX11_isStreet 6 = .ok (.ireturn, 1) := by decide +kernel
theorem dX11_isOf_0 : decode cX11_isOf 0 = .ok (.iload_n 0, 1) := by decide +kernel
theorem dX11_isOf_1 : decode cX11_isOf 1 = .ok (.iload_n 1, 1) := by decide +kernel
theorem dX11_isOf_2 : decode cX11_isOf 2 = .ok (.if_icmp .eq 23, 3) := by decide +kernel
theorem dX11_isOf_5 : decode cX11_isOf 5 = .ok (.iload_n 0, 1) := by decide +kernel
theorem dX11_isOf_6 : decode cX11_isOf 6 = .ok (.iconst 4, 1) := by decide +kernel
theorem dX11_isOf_7 : decode cX11_isOf 7 = .ok (.if_icmp .ne 8, 3) := by decide +kernel
theorem dX11_isOf_10 : decode cX11_isOf 10 = .ok (.iload_n 1, 1) := by decide +kernel
theorem dX11_isOf_11 : decode cX11_isOf 11 = .ok (.iconst 1, 1) := by decide +kernel
theorem dX11_isOf_12 : decode cX11_isOf 12 = .ok (.if_icmp .eq 13, 3) := by decide +kernel
theorem dX11_isOf_15 : decode cX11_isOf 15 = .ok (.iload_n 0, 1) := by decide +kernel
theorem dX11_isOf_16 : decode cX11_isOf 16 = .ok (.iconst 5, 1) := by decide +kernel
theorem dX11_isOf_17 : decode cX11_isOf 17 = .ok (.if_icmp .ne 12, 3) := by decide +kernel
theorem dX11_isOf_20 : decode cX11_isOf 20 = .ok (.iload_n 1, 1) := by decide +kernel
theorem dX11_isOf_21 : decode cX11_isOf 21 = .ok (.iconst 2, 1) := by decide +kernel
theorem dX11_isOf_22 : decode cX11_isOf 22 = .ok (.if_icmp .ne 7, 3) := by decide +kernel
theorem dX11_isOf_25 : decode cX11_isOf 25 = .ok (.iconst 1, 1) := by decide +kernel
theorem dX11_isOf_26 : decode cX11_isOf 26 = .ok (.goto 4, 3) := by decide +kernel
theorem dX11_isOf_29 : decode cX11_isOf 29 = .ok (.iconst 0, 1) := by decide +kernel
theorem dX11_isOf_30 : decode cX11_isOf 30 = .ok (.ireturn, 1) := by decide +kernel
theorem dX11_seen_0 : decode cX11_seen 0 = .ok (.aload_n 0, 1) := by decide +kernel
theorem dX11_seen_1 : decode cX11_seen 1 = .ok (.getfield 39, 3) := by decide +kernel
theorem dX11_seen_4 : decode cX11_seen 4 = .ok (.iload_n 1, 1) := by decide +kernel
theorem dX11_seen_5 : decode cX11_seen 5 = .ok (.iaload, 1) := by decide +kernel
theorem dX11_seen_6 : decode cX11_seen 6 = .ok (.iconst 3, 1) := by decide +kernel
theorem dX11_seen_7 : decode cX11_seen 7 = .ok (.if_icmp .ne 14, 3) := by decide +kernel
theorem dX11_seen_10 : decode cX11_seen 10 = .ok (.aload_n 0, 1) := by decide +kernel
theorem dX11_seen_11 : decode cX11_seen 11 = .ok (.getfield 42, 3) := by decide +kernel
theorem dX11_seen_14 : decode cX11_seen 14 = .ok (.iload_n 1, 1) := by decide +kernel
theorem dX11_seen_15 : decode cX11_seen 15 = .ok (.iaload, 1) := by decide +kernel
theorem dX11_seen_16 : decode cX11_seen 16 = .ok (.iconst 2, 1) := by decide +kernel
theorem dX11_seen_17 : decode cX11_seen 17 = .ok (.isub, 1) := by decide +kernel
theorem dX11_seen_18 : decode cX11_seen 18 = .ok (.goto 9, 3) := by decide +kernel
theorem dX11_seen_21 : decode cX11_seen 21 = .ok (.aload_n 0, 1) := by decide +kernel
theorem dX11_seen_22 : decode cX11_seen 22 = .ok (.getfield 42, 3) := by decide +kernel
theorem dX11_seen_25 : decode cX11_seen 25 = .ok (.iload_n 1, 1) := by decide +kernel
theorem dX11_seen_26 : decode cX11_seen 26 = .ok (.iaload, 1) := by decide +kernel
theorem dX11_seen_27 : decode cX11_seen 27 = .ok (.istore_n 2, 1) := by decide +kernel
theorem dX11_seen_28 : decode cX11_seen 28 = .ok (.iload_n 2, 1) := by decide +kernel
theorem dX11_seen_29 : decode cX11_seen 29 = .ok (.ifCond .ge 7, 3) := by decide +kernel
theorem dX11_seen_32 : decode cX11_seen 32 = .ok (.iconst 0, 1) := by decide +kernel
theorem dX11_seen_33 : decode cX11_seen 33 = .ok (.goto 4, 3) := by decide +kernel
theorem dX11_seen_36 : decode cX11_seen 36 = .ok (.iload_n 2, 1) := by decide +kernel
theorem dX11_seen_37 : decode cX11_seen 37 = .ok (.ireturn, 1) := by decide +kernel
theorem dX11_isHid_0 : decode cX11_isHid 0 = .ok (.aload_n 0, 1) := by decide +kernel
theorem dX11_isHid_1 : decode cX11_isHid 1 = .ok (.iload_n 2, 1) := by decide +kernel
theorem dX11_isHid_2 : decode cX11_isHid 2 = .ok (.invokevirtual 132, 3) := by decide +kernel
theorem dX11_isHid_5 : decode cX11_isHid 5 = .ok (.aload_n 1, 1) := by decide +kernel
theorem dX11_isHid_6 : decode cX11_isHid 6 = .ok (.iconst 1, 1) := by decide +kernel
theorem dX11_isHid_7 : decode cX11_isHid 7 = .ok (.aload_n 1, 1) := by decide +kernel
theorem dX11_isHid_8 : decode cX11_isHid 8 = .ok (.bipush 13, 2) := by decide +kernel
theorem dX11_isHid_10 : decode cX11_isHid 10 = .ok (.iload_n 2, 1) := by decide +kernel
theorem dX11_isHid_11 : decode cX11_isHid 11 = .ok (.iadd, 1) := by decide +kernel
theorem dX11_isHid_12 : decode cX11_isHid 12 = .ok (.iaload, 1) := by decide +kernel
theorem dX11_isHid_13 : decode cX11_isHid 13 = .ok (.iadd, 1) := by decide +kernel
theorem dX11_isHid_14 : decode cX11_isHid 14 = .ok (.iaload, 1) := by decide +kernel
theorem dX11_isHid_15 : decode cX11_isHid 15 = .ok (.if_icmp .gt 7, 3) := by decide +kernel
theorem dX11_isHid_18 : decode cX11_isHid 18 = .ok (.iconst 1, 1) := by decide +kernel
theorem dX11_isHid_19 : decode cX11_isHid 19 = .ok (.goto 4, 3) := by decide +kernel
theorem dX11_isHid_22 : decode cX11_isHid 22 = .ok (.iconst 0, 1) := by decide +kernel
theorem dX11_isHid_23 : decode cX11_isHid 23 = .ok (.ireturn, 1) := by decide +kernel
theorem dX11_nextTo_0 : decode cX11_nextTo 0 = .ok (.iconst 0, 1) := by decide +kernel
theorem dX11_nextTo_1 : decode cX11_nextTo 1 = .ok (.istore_n 3, 1) := by decide +kernel
theorem dX11_nextTo_2 : decode cX11_nextTo 2 = .ok (.bipush (-9), 2) := by decide +kernel
theorem dX11_nextTo_4 : decode cX11_nextTo 4 = .ok (.istore 4, 2) := by decide +kernel
theorem dX11_nextTo_6 : decode cX11_nextTo 6 = .ok (.bipush (-9), 2) := by decide +kernel
theorem dX11_nextTo_8 : decode cX11_nextTo 8 = .ok (.istore 5, 2) := by decide +kernel
theorem dX11_nextTo_10 : decode cX11_nextTo 10 = .ok (.aload_n 0, 1) := by decide +kernel
theorem dX11_nextTo_11 : decode cX11_nextTo 11 = .ok (.getfield 126, 3) := by decide +kernel
theorem dX11_nextTo_14 : decode cX11_nextTo 14 = .ok (.iconst 1, 1) := by decide +kernel
theorem dX11_nextTo_15 : decode cX11_nextTo 15 = .ok (.isub, 1) := by decide +kernel
theorem dX11_nextTo_16 : decode cX11_nextTo 16 = .ok (.istore 6, 2) := by decide +kernel
theorem dX11_nextTo_18 : decode cX11_nextTo 18 = .ok (.iload 6, 2) := by decide +kernel
theorem dX11_nextTo_20 : decode cX11_nextTo 20 = .ok (.ifCond .lt 79, 3) := by decide +kernel
theorem dX11_nextTo_23 : decode cX11_nextTo 23 = .ok (.aload_n 1, 1) := by decide +kernel
theorem dX11_nextTo_24 : decode cX11_nextTo 24 = .ok (.bipush 13, 2) := by decide +kernel
theorem dX11_nextTo_26 : decode cX11_nextTo 26 = .ok (.iload 6, 2) := by decide +kernel
theorem dX11_nextTo_28 : decode cX11_nextTo 28 = .ok (.iadd, 1) := by decide +kernel
theorem dX11_nextTo_29 : decode cX11_nextTo 29 = .ok (.iaload, 1) := by decide +kernel
theorem dX11_nextTo_30 : decode cX11_nextTo 30 = .ok (.aload_n 1, 1) := by decide +kernel
theorem dX11_nextTo_31 : decode cX11_nextTo 31 = .ok (.bipush 13, 2) := by decide +kernel
theorem dX11_nextTo_33 : decode cX11_nextTo 33 = .ok (.iload_n 2, 1) := by decide +kernel
theorem dX11_nextTo_34 : decode cX11_nextTo 34 = .ok (.iadd, 1) := by decide +kernel
theorem dX11_nextTo_35 : decode cX11_nextTo 35 = .ok (.iaload, 1) := by decide +kernel
theorem dX11_nextTo_36 : decode cX11_nextTo 36 = .ok (.if_icmp .ne 7, 3) := by decide +kernel
theorem dX11_nextTo_39 : decode cX11_nextTo 39 = .ok (.iconst 1, 1) := by decide +kernel
theorem dX11_nextTo_40 : decode cX11_nextTo 40 = .ok (.goto 4, 3) := by decide +kernel
theorem dX11_nextTo_43 : decode cX11_nextTo 43 = .ok (.iconst 0, 1) := by decide +kernel
theorem dX11_nextTo_44 : decode cX11_nextTo 44 = .ok (.istore 7, 2) := by decide +kernel
theorem dX11_nextTo_46 : decode cX11_nextTo 46 = .ok (.iload_n 3, 1) := by decide +kernel
theorem dX11_nextTo_47 : decode cX11_nextTo 47 = .ok (.iload 7, 2) := by decide +kernel
theorem dX11_nextTo_49 : decode cX11_nextTo 49 = .ok (.ifCond .eq 7, 3) := by decide +kernel
theorem dX11_nextTo_52 : decode cX11_nextTo 52 = .ok (.iconst 1, 1) := by decide +kernel
theorem dX11_nextTo_53 : decode cX11_nextTo 53 = .ok (.goto 4, 3) := by decide +kernel
theorem dX11_nextTo_56 : decode cX11_nextTo 56 = .ok (.iconst 0, 1) := by decide +kernel
theorem dX11_nextTo_57 : decode cX11_nextTo 57 = .ok (.iadd, 1) := by decide +kernel
theorem dX11_nextTo_58 : decode cX11_nextTo 58 = .ok (.istore_n 3, 1) := by decide +kernel
theorem dX11_nextTo_59 : decode cX11_nextTo 59 = .ok (.iload 7, 2) := by decide +kernel
theorem dX11_nextTo_61 : decode cX11_nextTo 61 = .ok (.ifCond .eq 8, 3) := by decide +kernel
theorem dX11_nextTo_64 : decode cX11_nextTo 64 = .ok (.iload 6, 2) := by decide +kernel
theorem dX11_nextTo_66 : decode cX11_nextTo 66 = .ok (.goto 5, 3) := by decide +kernel
theorem dX11_nextTo_69 : decode cX11_nextTo 69 = .ok (.iload 4, 2) := by decide +kernel
theorem dX11_nextTo_71 : decode cX11_nextTo 71 = .ok (.istore 4, 2) := by decide +kernel
theorem dX11_nextTo_73 : decode cX11_nextTo 73 = .ok (.iload 7, 2) := by decide +kernel
theorem dX11_nextTo_75 : decode cX11_nextTo 75 = .ok (.ifCond .eq 14, 3) := by decide +kernel
theorem dX11_nextTo_78 : decode cX11_nextTo 78 = .ok (.iload 6, 2) := by decide +kernel
theorem dX11_nextTo_80 : decode cX11_nextTo 80 = .ok (.iload_n 2, 1) := by decide +kernel
theorem dX11_nextTo_81 : decode cX11_nextTo 81 = .ok (.if_icmp .le 8, 3) := by decide +kernel
theorem dX11_nextTo_84 : decode cX11_nextTo 84 = .ok (.iload 6, 2) := by decide +kernel
theorem dX11_nextTo_86 : decode cX11_nextTo 86 = .ok (.goto 5, 3) := by decide +kernel
theorem dX11_nextTo_89 : decode cX11_nextTo 89 = .ok (.iload 5, 2) := by decide +kernel
theorem dX11_nextTo_91 : decode cX11_nextTo 91 = .ok (.istore 5, 2) := by decide +kernel
theorem dX11_nextTo_93 : decode cX11_nextTo 93 = .ok (.iinc 6 (-1), 3) := by decide +kernel
theorem dX11_nextTo_96 : decode cX11_nextTo 96 = .ok (.goto (-78), 3) := by decide +kernel
theorem dX11_nextTo_99 : decode cX11_nextTo 99 = .ok (.iload 5, 2) := by decide +kernel
theorem dX11_nextTo_101 : decode cX11_nextTo 101 = .ok (.bipush (-9), 2) := by decide +kernel
theorem dX11_nextTo_103 : decode cX11_nextTo 103 = .ok (.if_icmp .eq 8, 3) := by decide +kernel
theorem dX11_nextTo_106 : decode cX11_nextTo 106 = .ok (.iload 5, 2) := by decide +kernel
theorem dX11_nextTo_108 : decode cX11_nextTo 108 = .ok (.goto 15, 3) := by decide +kernel
theorem dX11_nextTo_111 : decode cX11_nextTo 111 = .ok (.iload_n 3, 1) := by decide +kernel
theorem dX11_nextTo_112 : decode cX11_nextTo 112 = .ok (.iconst 2, 1) := by decide +kernel
theorem dX11_nextTo_113 : decode cX11_nextTo 113 = .ok (.if_icmp .le 8, 3) := by decide +kernel
theorem dX11_nextTo_116 : decode cX11_nextTo 116 = .ok (.iload 4, 2) := by decide +kernel
theorem dX11_nextTo_118 : decode cX11_nextTo 118 = .ok (.goto 5, 3) := by decide +kernel
theorem dX11_nextTo_121 : decode cX11_nextTo 121 = .ok (.bipush (-9), 2) := by decide +kernel
theorem dX11_nextTo_123 : decode cX11_nextTo 123 = .ok (.ireturn, 1) := by decide +kernel
theorem dX11_isMet_0 : decode cX11_isMet 0 = .ok (.aload_n 0, 1) := by decide +kernel
theorem dX11_isMet_1 : decode cX11_isMet 1 = .ok (.getfield 45, 3) := by decide +kernel
theorem dX11_isMet_4 : decode cX11_isMet 4 = .ok (.iload_n 2, 1) := by decide +kernel
theorem dX11_isMet_5 : decode cX11_isMet 5 = .ok (.iaload, 1) := by decide +kernel
theorem dX11_isMet_6 : decode cX11_isMet 6 = .ok (.istore_n 3, 1) := by decide +kernel
theorem dX11_isMet_7 : decode cX11_isMet 7 = .ok (.iload_n 3, 1) := by decide +kernel
theorem dX11_isMet_8 : decode cX11_isMet 8 = .ok (.iload_n 2, 1) := by decide +kernel
theorem dX11_isMet_9 : decode cX11_isMet 9 = .ok (.if_icmp .eq 27, 3) := by decide +kernel
theorem dX11_isMet_12 : decode cX11_isMet 12 = .ok (.aload_n 0, 1) := by decide +kernel
theorem dX11_isMet_13 : decode cX11_isMet 13 = .ok (.aload_n 1, 1) := by decide +kernel
theorem dX11_isMet_14 : decode cX11_isMet 14 = .ok (.iload_n 2, 1) := by decide +kernel
theorem dX11_isMet_15 : decode cX11_isMet 15 = .ok (.invokevirtual 135, 3) := by decide +kernel
theorem dX11_isMet_18 : decode cX11_isMet 18 = .ok (.iload_n 3, 1) := by decide +kernel
theorem dX11_isMet_19 : decode cX11_isMet 19 = .ok (.if_icmp .eq 13, 3) := by decide +kernel
theorem dX11_isMet_22 : decode cX11_isMet 22 = .ok (.aload_n 0, 1) := by decide +kernel
theorem dX11_isMet_23 : decode cX11_isMet 23 = .ok (.aload_n 1, 1) := by decide +kernel
theorem dX11_isMet_24 : decode cX11_isMet 24 = .ok (.iload_n 3, 1) := by decide +kernel
theorem dX11_isMet_25 : decode cX11_isMet 25 = .ok (.invokevirtual 135, 3) := by decide +kernel
theorem dX11_isMet_28 : decode cX11_isMet 28 = .ok (.iload_n 2, 1) := by decide +kernel
theorem dX11_isMet_29 : decode cX11_isMet 29 = .ok (.if_icmp .ne 7, 3) := by decide +kernel
theorem dX11_isMet_32 : decode cX11_isMet 32 = .ok (.iconst 1, 1) := by decide +kernel
theorem dX11_isMet_33 : decode cX11_isMet 33 = .ok (.goto 4, 3) := by decide +kernel
theorem dX11_isMet_36 : decode cX11_isMet 36 = .ok (.iconst 0, 1) := by decide +kernel
theorem dX11_isMet_37 : decode cX11_isMet 37 = .ok (.ireturn, 1) := by decide +kernel
theorem dX11_isForgiven_0 : decode cX11_isForgiven 0 = .ok (.aload_n 0, 1) := by decide +kernel
theorem dX11_isForgiven_1 : decode cX11_isForgiven 1 = .ok (.getfield 39, 3) := by decide +kernel
theorem dX11_isForgiven_4 : decode cX11_isForgiven 4 = .ok (.iload_n 2, 1) := by decide +kernel
theorem dX11_isForgiven_5 : decode cX11_isForgiven 5 = .ok (.iaload, 1) := by decide +kernel
theorem dX11_isForgiven_6 : decode cX11_isForgiven 6 = .ok (.iconst 4, 1) := by decide +kernel
theorem dX11_isForgiven_7 : decode cX11_isForgiven 7 = .ok (.if_icmp .eq 17, 3) := by decide +kernel
theorem dX11_isForgiven_10 : decode cX11_isForgiven 10 = .ok (.aload_n 0, 1) := by decide +kernel
theorem dX11_isForgiven_11 : decode cX11_isForgiven 11 = .ok (.aload_n 1, 1) := by decide +kernel
theorem dX11_isForgiven_12 : decode cX11_isForgiven 12 = .ok (.aload_n 0, 1) := by decide +kernel
theorem dX11_isForgiven_13 : decode cX11_isForgiven 13 = .ok (.getfield 45, 3) := by decide +kernel
theorem dX11_isForgiven_16 : decode cX11_isForgiven 16 = .ok (.iload_n 2, 1) := by decide +kernel
theorem dX11_isForgiven_17 : decode cX11_isForgiven 17 = .ok (.iaload, 1) := by decide +kernel
theorem dX11_isForgiven_18 : decode cX11_isForgiven 18 = .ok (.invokevirtual 139, 3) := by decide +kernel
theorem dX11_isForgiven_21 : decode cX11_isForgiven 21 = .ok (.ifCond .eq 7, 3) := by decide +kernel
theorem dX11_isForgiven_24 : decode cX11_isForgiven 24 = .ok (.iconst 1, 1) := by decide +kernel
theorem dX11_isForgiven_25 : decode cX11_isForgiven 25 = .ok (.goto 4, 3) := by decide +kernel
theorem dX11_isForgiven_28 : decode cX11_isForgiven 28 = .ok (.iconst 0, 1) := by decide +kernel
theorem dX11_isForgiven_29 : decode cX11_isForgiven 29 = .ok (.ireturn, 1) := by decide +kernel
theorem dX11_lessBy_0 : decode cX11_lessBy 0 = .ok (.iload_n 0, 1) := by decide +kernel
theorem dX11_lessBy_1 : decode cX11_lessBy 1 = .ok (.iconst 1, 1) := by decide +kernel
theorem dX11_lessBy_2 : decode cX11_lessBy 2 = .ok (.invokestatic 143, 3) := by decide +kernel
theorem dX11_lessBy_5 : decode cX11_lessBy 5 = .ok (.ifCond .eq 7, 3) := by decide +kernel
theorem dX11_lessBy_8 : decode cX11_lessBy 8 = .ok (.iconst 2, 1) := by decide +kernel
theorem dX11_lessBy_9 : decode cX11_lessBy 9 = .ok (.goto 20, 3) := by decide +kernel
theorem dX11_lessBy_12 : decode cX11_lessBy 12 = .ok (.iload_n 0, 1) := by decide +kernel
theorem dX11_lessBy_13 : decode cX11_lessBy 13 = .ok (.iconst 2, 1) := by decide +kernel
theorem dX11_lessBy_14 : decode cX11_lessBy 14 = .ok (.invokestatic 143, 3) := by decide +kernel
theorem dX11_lessBy_17 : decode cX11_lessBy 17 = .ok (.ifCond .eq 11, 3) := by decide +kernel
theorem dX11_lessBy_20 : decode cX11_lessBy 20 = .ok (.iconst 1, 1) := by decide +kernel
theorem dX11_lessBy_21 : decode cX11_lessBy 21 = .ok (.iload_n 1, 1) := by decide +kernel
theorem dX11_lessBy_22 : decode cX11_lessBy 22 = .ok (.iconst 2, 1) := by decide +kernel
theorem dX11_lessBy_23 : decode cX11_lessBy 23 = .ok (.irem, 1) := by decide +kernel
theorem dX11_lessBy_24 : decode cX11_lessBy 24 = .ok (.isub, 1) := by decide +kernel
theorem dX11_lessBy_25 : decode cX11_lessBy 25 = .ok (.goto 4, 3) := by decide +kernel
theorem dX11_lessBy_28 : decode cX11_lessBy 28 = .ok (.iconst 1, 1) := by decide +kernel
theorem dX11_lessBy_29 : decode cX11_lessBy 29 = .ok (.ireturn, 1) := by decide +kernel
theorem dX11_grudgeThen_0 : decode cX11_grudgeThen 0 = .ok (.aload_n 1, 1) := by decide +kernel
theorem dX11_grudgeThen_1 : decode cX11_grudgeThen 1 = .ok (.bipush 6, 2) := by decide +kernel
theorem dX11_grudgeThen_3 : decode cX11_grudgeThen 3 = .ok (.iload_n 2, 1) := by decide +kernel
theorem dX11_grudgeThen_4 : decode cX11_grudgeThen 4 = .ok (.iadd, 1) := by decide +kernel
theorem dX11_grudgeThen_5 : decode cX11_grudgeThen 5 = .ok (.iaload, 1) := by decide +kernel
theorem dX11_grudgeThen_6 : decode cX11_grudgeThen 6 = .ok (.istore_n 3, 1) := by decide +kernel
theorem dX11_grudgeThen_7 : decode cX11_grudgeThen 7 = .ok (.aload_n 0, 1) := by decide +kernel
theorem dX11_grudgeThen_8 : decode cX11_grudgeThen 8 = .ok (.aload_n 1, 1) := by decide +kernel
theorem dX11_grudgeThen_9 : decode cX11_grudgeThen 9 = .ok (.iload_n 2, 1) := by decide +kernel
theorem dX11_grudgeThen_10 : decode cX11_grudgeThen 10 = .ok (.invokevirtual 147, 3) := by decide +kernel
theorem dX11_grudgeThen_13 : decode cX11_grudgeThen 13 = .ok (.ifCond .ne 5, 3) := by decide +kernel
theorem dX11_grudgeThen_16 : decode cX11_grudgeThen 16 = .ok (.iload_n 3, 1) := by decide +kernel
theorem dX11_grudgeThen_17 : decode cX11_grudgeThen 17 = .ok (.ireturn, 1) := by decide +kernel
theorem dX11_grudgeThen_18 : decode cX11_grudgeThen 18 = .ok (.aload_n 0, 1) := by decide +kernel
theorem dX11_grudgeThen_19 : decode cX11_grudgeThen 19 = .ok (.aload_n 1, 1) := by decide +kernel
theorem dX11_grudgeThen_20 : decode cX11_grudgeThen 20 = .ok (.iload_n 2, 1) := by decide +kernel
theorem dX11_grudgeThen_21 : decode cX11_grudgeThen 21 = .ok (.invokevirtual 150, 3) := by decide +kernel
theorem dX11_grudgeThen_24 : decode cX11_grudgeThen 24 = .ok (.ifCond .eq 32, 3) := by decide +kernel
theorem dX11_grudgeThen_27 : decode cX11_grudgeThen 27 = .ok (.aload_n 0, 1) := by decide +kernel
theorem dX11_grudgeThen_28 : decode cX11_grudgeThen 28 = .ok (.getfield 39, 3) := by decide +kernel
theorem dX11_grudgeThen_31 : decode cX11_grudgeThen 31 = .ok (.iload_n 2, 1) := by decide +kernel
theorem dX11_grudgeThen_32 : decode cX11_grudgeThen 32 = .ok (.iaload, 1) := by decide +kernel
theorem dX11_grudgeThen_33 : decode cX11_grudgeThen 33 = .ok (.aload_n 1, 1) := by decide +kernel
theorem dX11_grudgeThen_34 : decode cX11_grudgeThen 34 = .ok (.iconst 0, 1) := by decide +kernel
theorem dX11_grudgeThen_35 : decode cX11_grudgeThen 35 = .ok (.iaload, 1) := by decide +kernel
theorem dX11_grudgeThen_36 : decode cX11_grudgeThen 36 = .ok (.invokestatic 153, 3) := by decide +kernel
theorem dX11_grudgeThen_39 : decode cX11_grudgeThen 39 = .ok (.istore 4, 2) := by decide +kernel
theorem dX11_grudgeThen_41 : decode cX11_grudgeThen 41 = .ok (.iload_n 3, 1) := by decide +kernel
theorem dX11_grudgeThen_42 : decode cX11_grudgeThen 42 = .ok (.iload 4, 2) := by decide +kernel
theorem dX11_grudgeThen_44 : decode cX11_grudgeThen 44 = .ok (.if_icmp .le 10, 3) := by decide +kernel
theorem dX11_grudgeThen_47 : decode cX11_grudgeThen 47 = .ok (.iload_n 3, 1) := by decide +kernel
theorem dX11_grudgeThen_48 : decode cX11_grudgeThen 48 = .ok (.iload 4, 2) := by decide +kernel
theorem dX11_grudgeThen_50 : decode cX11_grudgeThen 50 = .ok (.isub, 1) := by decide +kernel
theorem dX11_grudgeThen_51 : decode cX11_grudgeThen 51 = .ok (.goto 4, 3) := by decide +kernel
theorem dX11_grudgeThen_54 : decode cX11_grudgeThen 54 = .ok (.iconst 0, 1) := by decide +kernel
theorem dX11_grudgeThen_55 : decode cX11_grudgeThen 55 = .ok (.ireturn, 1) := by decide +kernel
theorem dX11_grudgeThen_56 : decode cX11_grudgeThen 56 = .ok (.aload_n 0, 1) := by decide +kernel
theorem dX11_grudgeThen_57 : decode cX11_grudgeThen 57 = .ok (.getfield 39, 3) := by decide +kernel
theorem dX11_grudgeThen_60 : decode cX11_grudgeThen 60 = .ok (.iload_n 2, 1) := by decide +kernel
theorem dX11_grudgeThen_61 : decode cX11_grudgeThen 61 = .ok (.iaload, 1) := by decide +kernel
theorem dX11_grudgeThen_62 : decode cX11_grudgeThen 62 = .ok (.iconst 5, 1) := by decide +kernel
theorem dX11_grudgeThen_63 : decode cX11_grudgeThen 63 = .ok (.if_icmp .eq 9, 3) := by decide +kernel
theorem dX11_grudgeThen_66 : decode cX11_grudgeThen 66 = .ok (.iload_n 3, 1) := by decide +kernel
theorem dX11_grudgeThen_67 : decode cX11_grudgeThen 67 = .ok (.bipush 9, 2) := by decide +kernel
theorem dX11_grudgeThen_69 : decode cX11_grudgeThen 69 = .ok (.if_icmp .ne 7, 3) := by decide +kernel
theorem dX11_grudgeThen_72 : decode cX11_grudgeThen 72 = .ok (.iload_n 3, 1) := by decide +kernel
theorem dX11_grudgeThen_73 : decode cX11_grudgeThen 73 = .ok (.goto 6, 3) := by decide +kernel
theorem dX11_grudgeThen_76 : decode cX11_grudgeThen 76 = .ok (.iload_n 3, 1) := by decide +kernel
theorem dX11_grudgeThen_77 : decode cX11_grudgeThen 77 = .ok (.iconst 1, 1) := by decide +kernel
theorem dX11_grudgeThen_78 : decode cX11_grudgeThen 78 = .ok (.iadd, 1) := by decide +kernel
theorem dX11_grudgeThen_79 : decode cX11_grudgeThen 79 = .ok (.ireturn, 1) := by decide +kernel
theorem dX11_passes_0 : decode cX11_passes 0 = .ok (.iconst 0, 1) := by decide +kernel
theorem dX11_passes_1 : decode cX11_passes 1 = .ok (.istore_n 2, 1) := by decide +kernel
theorem dX11_passes_2 : decode cX11_passes 2 = .ok (.iload_n 2, 1) := by decide +kernel
theorem dX11_passes_3 : decode cX11_passes 3 = .ok (.aload_n 0, 1) := by decide +kernel
theorem dX11_passes_4 : decode cX11_passes 4 = .ok (.getfield 126, 3) := by decide +kernel
theorem dX11_passes_7 : decode cX11_passes 7 = .ok (.if_icmp .ge 21, 3) := by decide +kernel
theorem dX11_passes_10 : decode cX11_passes 10 = .ok (.aload_n 1, 1) := by decide +kernel
theorem dX11_passes_11 : decode cX11_passes 11 = .ok (.bipush 6, 2) := by decide +kernel
theorem dX11_passes_13 : decode cX11_passes 13 = .ok (.iload_n 2, 1) := by decide +kernel
theorem dX11_passes_14 : decode cX11_passes 14 = .ok (.iadd, 1) := by decide +kernel
theorem dX11_passes_15 : decode cX11_passes 15 = .ok (.aload_n 0, 1) := by decide +kernel
theorem dX11_passes_16 : decode cX11_passes 16 = .ok (.aload_n 1, 1) := by decide +kernel
theorem dX11_passes_17 : decode cX11_passes 17 = .ok (.iload_n 2, 1) := by decide +kernel
theorem dX11_passes_18 : decode cX11_passes 18 = .ok (.invokevirtual 156, 3) := by decide +kernel
theorem dX11_passes_21 : decode cX11_passes 21 = .ok (.iastore, 1) := by decide +kernel
theorem dX11_passes_22 : decode cX11_passes 22 = .ok (.iinc 2 1, 3) := by decide +kernel
theorem dX11_passes_25 : decode cX11_passes 25 = .ok (.goto (-23), 3) := by decide +kernel
theorem dX11_passes_28 : decode cX11_passes 28 = .ok (.aload_n 1, 1) := by decide +kernel
theorem dX11_passes_29 : decode cX11_passes 29 = .ok (.iconst 0, 1) := by decide +kernel
theorem dX11_passes_30 : decode cX11_passes 30 = .ok (.dup2, 1) := by decide +kernel
theorem dX11_passes_31 : decode cX11_passes 31 = .ok (.iaload, 1) := by decide +kernel
theorem dX11_passes_32 : decode cX11_passes 32 = .ok (.iconst 1, 1) := by decide +kernel
theorem dX11_passes_33 : decode cX11_passes 33 = .ok (.iadd, 1) := by decide +kernel
theorem dX11_passes_34 : decode cX11_passes 34 = .ok (.iastore, 1) := by decide +kernel
theorem dX11_passes_35 : decode cX11_passes 35 = .ok (.return_, 1) := by decide +kernel
theorem dX11_all_0 : decode cX11_all 0 = .ok (.iconst 0, 1) := by decide +kernel
theorem dX11_all_1 : decode cX11_all 1 = .ok (.istore_n 2, 1) := by decide +kernel
theorem dX11_all_2 : decode cX11_all 2 = .ok (.iconst 0, 1) := by decide +kernel
theorem dX11_all_3 : decode cX11_all 3 = .ok (.istore_n 3, 1) := by decide +kernel
theorem dX11_all_4 : decode cX11_all 4 = .ok (.iload_n 3, 1) := by decide +kernel
theorem dX11_all_5 : decode cX11_all 5 = .ok (.aload_n 0, 1) := by decide +kernel
theorem dX11_all_6 : decode cX11_all 6 = .ok (.getfield 126, 3) := by decide +kernel
theorem dX11_all_9 : decode cX11_all 9 = .ok (.if_icmp .ge 18, 3) := by decide +kernel
theorem dX11_all_12 : decode cX11_all 12 = .ok (.iload_n 2, 1) := by decide +kernel
theorem dX11_all_13 : decode cX11_all 13 = .ok (.aload_n 1, 1) := by decide +kernel
theorem dX11_all_14 : decode cX11_all 14 = .ok (.bipush 6, 2) := by decide +kernel
theorem dX11_all_16 : decode cX11_all 16 = .ok (.iload_n 3, 1) := by decide +kernel
theorem dX11_all_17 : decode cX11_all 17 = .ok (.iadd, 1) := by decide +kernel
theorem dX11_all_18 : decode cX11_all 18 = .ok (.iaload, 1) := by decide +kernel
theorem dX11_all_19 : decode cX11_all 19 = .ok (.iadd, 1) := by decide +kernel
theorem dX11_all_20 : decode cX11_all 20 = .ok (.istore_n 2, 1) := by decide +kernel
theorem dX11_all_21 : decode cX11_all 21 = .ok (.iinc 3 1, 3) := by decide +kernel
theorem dX11_all_24 : decode cX11_all 24 = .ok (.goto (-20), 3) := by decide +kernel
theorem dX11_all_27 : decode cX11_all 27 = .ok (.iload_n 2, 1) := by decide +kernel
theorem dX11_all_28 : decode cX11_all 28 = .ok (.ireturn, 1) := by decide +kernel
theorem dX11_calm_0 : decode cX11_calm 0 = .ok (.iconst 0, 1) := by decide +kernel
theorem dX11_calm_1 : decode cX11_calm 1 = .ok (.istore_n 2, 1) := by decide +kernel
theorem dX11_calm_2 : decode cX11_calm 2 = .ok (.iconst 0, 1) := by decide +kernel
theorem dX11_calm_3 : decode cX11_calm 3 = .ok (.istore_n 3, 1) := by decide +kernel
theorem dX11_calm_4 : decode cX11_calm 4 = .ok (.iload_n 3, 1) := by decide +kernel
theorem dX11_calm_5 : decode cX11_calm 5 = .ok (.aload_n 0, 1) := by decide +kernel
theorem dX11_calm_6 : decode cX11_calm 6 = .ok (.getfield 126, 3) := by decide +kernel
theorem dX11_calm_9 : decode cX11_calm 9 = .ok (.if_icmp .ge 28, 3) := by decide +kernel
theorem dX11_calm_12 : decode cX11_calm 12 = .ok (.iload_n 2, 1) := by decide +kernel
theorem dX11_calm_13 : decode cX11_calm 13 = .ok (.aload_n 1, 1) := by decide +kernel
theorem dX11_calm_14 : decode cX11_calm 14 = .ok (.bipush 6, 2) := by decide +kernel
theorem dX11_calm_16 : decode cX11_calm 16 = .ok (.iload_n 3, 1) := by decide +kernel
theorem dX11_calm_17 : decode cX11_calm 17 = .ok (.iadd, 1) := by decide +kernel
theorem dX11_calm_18 : decode cX11_calm 18 = .ok (.iaload, 1) := by decide +kernel
theorem dX11_calm_19 : decode cX11_calm 19 = .ok (.ifCond .ne 9, 3) := by decide +kernel
theorem dX11_calm_22 : decode cX11_calm 22 = .ok (.iconst 1, 1) := by decide +kernel
theorem dX11_calm_23 : decode cX11_calm 23 = .ok (.iload_n 3, 1) := by decide +kernel
theorem dX11_calm_24 : decode cX11_calm 24 = .ok (.ishl, 1) := by decide +kernel
theorem dX11_calm_25 : decode cX11_calm 25 = .ok (.goto 4, 3) := by decide +kernel
theorem dX11_calm_28 : decode cX11_calm 28 = .ok (.iconst 0, 1) := by decide +kernel
theorem dX11_calm_29 : decode cX11_calm 29 = .ok (.ior, 1) := by decide +kernel
theorem dX11_calm_30 : decode cX11_calm 30 = .ok (.istore_n 2, 1) := by decide +kernel
theorem dX11_calm_31 : decode cX11_calm 31 = .ok (.iinc 3 1, 3) := by decide +kernel
theorem dX11_calm_34 : decode cX11_calm 34 = .ok (.goto (-30), 3) := by decide +kernel
theorem dX11_calm_37 : decode cX11_calm 37 = .ok (.iload_n 2, 1) := by decide +kernel
theorem dX11_calm_38 : decode cX11_calm 38 = .ok (.ireturn, 1) := by decide +kernel
theorem dX11_copyNow_0 : decode cX11_copyNow 0 = .ok (.iconst 0, 1) := by decide +kernel
theorem dX11_copyNow_1 : decode cX11_copyNow 1 = .ok (.istore_n 1, 1) := by decide +kernel
theorem dX11_copyNow_2 : decode cX11_copyNow 2 = .ok (.iload_n 1, 1) := by decide +kernel
theorem dX11_copyNow_3 : decode cX11_copyNow 3 = .ok (.bipush 20, 2) := by decide +kernel
theorem dX11_copyNow_5 : decode cX11_copyNow 5 = .ok (.if_icmp .ge 21, 3) := by decide +kernel
theorem dX11_copyNow_8 : decode cX11_copyNow 8 = .ok (.aload_n 0, 1) := by decide +kernel
theorem dX11_copyNow_9 : decode cX11_copyNow 9 = .ok (.getfield 51, 3) := by decide +kernel
theorem dX11_copyNow_12 : decode cX11_copyNow 12 = .ok (.iload_n 1, 1) := by decide +kernel
theorem dX11_copyNow_13 : decode cX11_copyNow 13 = .ok (.aload_n 0, 1) := by decide +kernel
theorem dX11_copyNow_14 : decode cX11_copyNow 14 = .ok (.getfield 48, 3) := by decide +kernel
theorem dX11_copyNow_17 : decode cX11_copyNow 17 = .ok (.iload_n 1, 1) := by decide +kernel
theorem dX11_copyNow_18 : decode cX11_copyNow 18 = .ok (.iaload, 1) := by decide +kernel
theorem dX11_copyNow_19 : decode cX11_copyNow 19 = .ok (.iastore, 1) := by decide +kernel
theorem dX11_copyNow_20 : decode cX11_copyNow 20 = .ok (.iinc 1 1, 3) := by decide +kernel
theorem dX11_copyNow_23 : decode cX11_copyNow 23 = .ok (.goto (-21), 3) := by decide +kernel
theorem dX11_copyNow_26 : decode cX11_copyNow 26 = .ok (.return_, 1) := by decide +kernel
theorem dX11_allBehind_0 : decode cX11_allBehind 0 = .ok (.iconst 0, 1) := by decide +kernel
theorem dX11_allBehind_1 : decode cX11_allBehind 1 = .ok (.istore_n 2, 1) := by decide +kernel
theorem dX11_allBehind_2 : decode cX11_allBehind 2 = .ok (.iload_n 2, 1) := by decide +kernel
theorem dX11_allBehind_3 : decode cX11_allBehind 3 = .ok (.iload_n 1, 1) := by decide +kernel
theorem dX11_allBehind_4 : decode cX11_allBehind 4 = .ok (.if_icmp .ge 17, 3) := by decide +kernel
theorem dX11_allBehind_7 : decode cX11_allBehind 7 = .ok (.aload_n 0, 1) := by decide +kernel
theorem dX11_allBehind_8 : decode cX11_allBehind 8 = .ok (.aload_n 0, 1) := by decide +kernel
theorem dX11_allBehind_9 : decode cX11_allBehind 9 = .ok (.getfield 51, 3) := by decide +kernel
theorem dX11_allBehind_12 : decode cX11_allBehind 12 = .ok (.invokevirtual 159, 3) := by decide +kernel
theorem dX11_allBehind_15 : decode cX11_allBehind 15 = .ok (.iinc 2 1, 3) := by decide +kernel
theorem dX11_allBehind_18 : decode cX11_allBehind 18 = .ok (.goto (-16), 3) := by decide +kernel
theorem dX11_allBehind_21 : decode cX11_allBehind 21 = .ok (.aload_n 0, 1) := by decide +kernel
theorem dX11_allBehind_22 : decode cX11_allBehind 22 = .ok (.aload_n 0, 1) := by decide +kernel
theorem dX11_allBehind_23 : decode cX11_allBehind 23 = .ok (.getfield 51, 3) := by decide +kernel
theorem dX11_allBehind_26 : decode cX11_allBehind 26 = .ok (.invokevirtual 163, 3) := by decide +kernel
theorem dX11_allBehind_29 : decode cX11_allBehind 29 = .ok (.ireturn, 1) := by decide +kernel
theorem dX11_personTells_0 : decode cX11_personTells 0 = .ok (.iload_n 2, 1) := by decide +kernel
theorem dX11_personTells_1 : decode cX11_personTells 1 = .ok (.tableswitch 112 0 5 #[39, 46, 53, 74, 84, 94], 39) := by decide +kernel
theorem dX11_personTells_40 : decode cX11_personTells 40 = .ok (.aload_n 0, 1) := by decide +kernel
theorem dX11_personTells_41 : decode cX11_personTells 41 = .ok (.getfield 39, 3) := by decide +kernel
theorem dX11_personTells_44 : decode cX11_personTells 44 = .ok (.iload_n 1, 1) := by decide +kernel
theorem dX11_personTells_45 : decode cX11_personTells 45 = .ok (.iaload, 1) := by decide +kernel
theorem dX11_personTells_46 : decode cX11_personTells 46 = .ok (.ireturn, 1) := by decide +kernel
theorem dX11_personTells_47 : decode cX11_personTells 47 = .ok (.aload_n 0, 1) := by decide +kernel
theorem dX11_personTells_48 : decode cX11_personTells 48 = .ok (.getfield 42, 3) := by decide +kernel
theorem dX11_personTells_51 : decode cX11_personTells 51 = .ok (.iload_n 1, 1) := by decide +kernel
theorem dX11_personTells_52 : decode cX11_personTells 52 = .ok (.iaload, 1) := by decide +kernel
theorem dX11_personTells_53 : decode cX11_personTells 53 = .ok (.ireturn, 1) := by decide +kernel
theorem dX11_personTells_54 : decode cX11_personTells 54 = .ok (.aload_n 0, 1) := by decide +kernel
theorem dX11_personTells_55 : decode cX11_personTells 55 = .ok (.getfield 45, 3) := by decide +kernel
theorem dX11_personTells_58 : decode cX11_personTells 58 = .ok (.iload_n 1, 1) := by decide +kernel
theorem dX11_personTells_59 : decode cX11_personTells 59 = .ok (.iaload, 1) := by decide +kernel
theorem dX11_personTells_60 : decode cX11_personTells 60 = .ok (.iload_n 1, 1) := by decide +kernel
theorem dX11_personTells_61 : decode cX11_personTells 61 = .ok (.if_icmp .ne 7, 3) := by decide +kernel
theorem dX11_personTells_64 : decode cX11_personTells 64 = .ok (.iconst (-1), 1) := by decide +kernel
theorem dX11_personTells_65 : decode cX11_personTells 65 = .ok (.goto 9, 3) := by decide +kernel
theorem dX11_personTells_68 : decode cX11_personTells 68 = .ok (.aload_n 0, 1) := by decide +kernel
theorem dX11_personTells_69 : decode cX11_personTells 69 = .ok (.getfield 45, 3) := by decide +kernel
theorem dX11_personTells_72 : decode cX11_personTells 72 = .ok (.iload_n 1, 1) := by decide +kernel
theorem dX11_personTells_73 : decode cX11_personTells 73 = .ok (.iaload, 1) := by decide +kernel
theorem dX11_personTells_74 : decode cX11_personTells 74 = .ok (.ireturn, 1) := by decide +kernel
theorem dX11_personTells_75 : decode cX11_personTells 75 = .ok (.aload_n 0, 1) := by decide +kernel
theorem dX11_personTells_76 : decode cX11_personTells 76 = .ok (.getfield 48, 3) := by decide +kernel
theorem dX11_personTells_79 : decode cX11_personTells 79 = .ok (.bipush 6, 2) := by decide +kernel
theorem dX11_personTells_81 : decode cX11_personTells 81 = .ok (.iload_n 1, 1) := by decide +kernel
theorem dX11_personTells_82 : decode cX11_personTells 82 = .ok (.iadd, 1) := by decide +kernel
theorem dX11_personTells_83 : decode cX11_personTells 83 = .ok (.iaload, 1) := by decide +kernel
theorem dX11_personTells_84 : decode cX11_personTells 84 = .ok (.ireturn, 1) := by decide +kernel
theorem dX11_personTells_85 : decode cX11_personTells 85 = .ok (.aload_n 0, 1) := by decide +kernel
theorem dX11_personTells_86 : decode cX11_personTells 86 = .ok (.getfield 48, 3) := by decide +kernel
theorem dX11_personTells_89 : decode cX11_personTells 89 = .ok (.bipush 13, 2) := by decide +kernel
theorem dX11_personTells_91 : decode cX11_personTells 91 = .ok (.iload_n 1, 1) := by decide +kernel
theorem dX11_personTells_92 : decode cX11_personTells 92 = .ok (.iadd, 1) := by decide +kernel
theorem dX11_personTells_93 : decode cX11_personTells 93 = .ok (.iaload, 1) := by decide +kernel
theorem dX11_personTells_94 : decode cX11_personTells 94 = .ok (.ireturn, 1) := by decide +kernel
theorem dX11_personTells_95 : decode cX11_personTells 95 = .ok (.aload_n 0, 1) := by decide +kernel
theorem dX11_personTells_96 : decode cX11_personTells 96 = .ok (.aload_n 0, 1) := by decide +kernel
theorem dX11_personTells_97 : decode cX11_personTells 97 = .ok (.getfield 48, 3) := by decide +kernel
theorem dX11_personTells_100 : decode cX11_personTells 100 = .ok (.iload_n 1, 1) := by decide +kernel
theorem dX11_personTells_101 : decode cX11_personTells 101 = .ok (.invokevirtual 139, 3) := by decide +kernel
theorem dX11_personTells_104 : decode cX11_personTells 104 = .ok (.ifCond .eq 7, 3) := by decide +kernel
theorem dX11_personTells_107 : decode cX11_personTells 107 = .ok (.iconst 1, 1) := by decide +kernel
theorem dX11_personTells_108 : decode cX11_personTells 108 = .ok (.goto 4, 3) := by decide +kernel
theorem dX11_personTells_111 : decode cX11_personTells 111 = .ok (.iconst 0, 1) := by decide +kernel
theorem dX11_personTells_112 : decode cX11_personTells 112 = .ok (.ireturn, 1) := by decide +kernel
theorem dX11_personTells_113 : decode cX11_personTells 113 = .ok (.aload_n 0, 1) := by decide +kernel
theorem dX11_personTells_114 : decode cX11_personTells 114 = .ok (.aload_n 0, 1) := by decide +kernel
theorem dX11_personTells_115 : decode cX11_personTells 115 = .ok (.getfield 48, 3) := by decide +kernel
theorem dX11_personTells_118 : decode cX11_personTells 118 = .ok (.iload_n 1, 1) := by decide +kernel
theorem dX11_personTells_119 : decode cX11_personTells 119 = .ok (.invokevirtual 147, 3) := by decide +kernel
theorem dX11_personTells_122 : decode cX11_personTells 122 = .ok (.ifCond .eq 7, 3) := by decide +kernel
theorem dX11_personTells_125 : decode cX11_personTells 125 = .ok (.iconst 1, 1) := by decide +kernel
theorem dX11_personTells_126 : decode cX11_personTells 126 = .ok (.goto 4, 3) := by decide +kernel
theorem dX11_personTells_129 : decode cX11_personTells 129 = .ok (.iconst 0, 1) := by decide +kernel
theorem dX11_personTells_130 : decode cX11_personTells 130 = .ok (.ireturn, 1) := by decide +kernel
theorem dX11_person_0 : decode cX11_person 0 = .ok (.aload_n 0, 1) := by decide +kernel
theorem dX11_person_1 : decode cX11_person 1 = .ok (.iload_n 1, 1) := by decide +kernel
theorem dX11_person_2 : decode cX11_person 2 = .ok (.invokevirtual 167, 3) := by decide +kernel
theorem dX11_person_5 : decode cX11_person 5 = .ok (.ifCond .eq 27, 3) := by decide +kernel
theorem dX11_person_8 : decode cX11_person 8 = .ok (.iload_n 2, 1) := by decide +kernel
theorem dX11_person_9 : decode cX11_person 9 = .ok (.iconst 0, 1) := by decide +kernel
theorem dX11_person_10 : decode cX11_person 10 = .ok (.bipush 6, 2) := by decide +kernel
theorem dX11_person_12 : decode cX11_person 12 = .ok (.invokestatic 76, 3) := by decide +kernel
theorem dX11_person_15 : decode cX11_person 15 = .ok (.ifCond .eq 17, 3) := by decide +kernel
theorem dX11_person_18 : decode cX11_person 18 = .ok (.aload_n 0, 1) := by decide +kernel
theorem dX11_person_19 : decode cX11_person 19 = .ok (.aload_n 0, 1) := by decide +kernel
theorem dX11_person_20 : decode cX11_person 20 = .ok (.iload_n 1, 1) := by decide +kernel
theorem dX11_person_21 : decode cX11_person 21 = .ok (.iload_n 2, 1) := by decide +kernel
theorem dX11_person_22 : decode cX11_person 22 = .ok (.invokevirtual 170, 3) := by decide +kernel
theorem dX11_person_25 : decode cX11_person 25 = .ok (.iconst 1, 1) := by decide +kernel
theorem dX11_person_26 : decode cX11_person 26 = .ok (.invokevirtual 92, 3) := by decide +kernel
theorem dX11_person_29 : decode cX11_person 29 = .ok (.goto 4, 3) := by decide +kernel
theorem dX11_person_32 : decode cX11_person 32 = .ok (.iconst (-1), 1) := by decide +kernel
theorem dX11_person_33 : decode cX11_person 33 = .ok (.ireturn, 1) := by decide +kernel
theorem dX11_inStreet_0 : decode cX11_inStreet 0 = .ok (.iconst 0, 1) := by decide +kernel
theorem dX11_inStreet_1 : decode cX11_inStreet 1 = .ok (.istore_n 2, 1) := by decide +kernel
theorem dX11_inStreet_2 : decode cX11_inStreet 2 = .ok (.iconst 0, 1) := by decide +kernel
theorem dX11_inStreet_3 : decode cX11_inStreet 3 = .ok (.istore_n 3, 1) := by decide +kernel
theorem dX11_inStreet_4 : decode cX11_inStreet 4 = .ok (.iload_n 3, 1) := by decide +kernel
theorem dX11_inStreet_5 : decode cX11_inStreet 5 = .ok (.aload_n 0, 1) := by decide +kernel
theorem dX11_inStreet_6 : decode cX11_inStreet 6 = .ok (.getfield 126, 3) := by decide +kernel
theorem dX11_inStreet_9 : decode cX11_inStreet 9 = .ok (.if_icmp .ge 30, 3) := by decide +kernel
theorem dX11_inStreet_12 : decode cX11_inStreet 12 = .ok (.iload_n 2, 1) := by decide +kernel
theorem dX11_inStreet_13 : decode cX11_inStreet 13 = .ok (.aload_n 0, 1) := by decide +kernel
theorem dX11_inStreet_14 : decode cX11_inStreet 14 = .ok (.getfield 48, 3) := by decide +kernel
theorem dX11_inStreet_17 : decode cX11_inStreet 17 = .ok (.bipush 13, 2) := by decide +kernel
theorem dX11_inStreet_19 : decode cX11_inStreet 19 = .ok (.iload_n 3, 1) := by decide +kernel
theorem dX11_inStreet_20 : decode cX11_inStreet 20 = .ok (.iadd, 1) := by decide +kernel
theorem dX11_inStreet_21 : decode cX11_inStreet 21 = .ok (.iaload, 1) := by decide +kernel
theorem dX11_inStreet_22 : decode cX11_inStreet 22 = .ok (.iload_n 1, 1) := by decide +kernel
theorem dX11_inStreet_23 : decode cX11_inStreet 23 = .ok (.if_icmp .ne 7, 3) := by decide +kernel
theorem dX11_inStreet_26 : decode cX11_inStreet 26 = .ok (.iconst 1, 1) := by decide +kernel
theorem dX11_inStreet_27 : decode cX11_inStreet 27 = .ok (.goto 4, 3) := by decide +kernel
theorem dX11_inStreet_30 : decode cX11_inStreet 30 = .ok (.iconst 0, 1) := by decide +kernel
theorem dX11_inStreet_31 : decode cX11_inStreet 31 = .ok (.iadd, 1) := by decide +kernel
theorem dX11_inStreet_32 : decode cX11_inStreet 32 = .ok (.istore_n 2, 1) := by decide +kernel
theorem dX11_inStreet_33 : decode cX11_inStreet 33 = .ok (.iinc 3 1, 3) := by decide +kernel
theorem dX11_inStreet_36 : decode cX11_inStreet 36 = .ok (.goto (-32), 3) := by decide +kernel
theorem dX11_inStreet_39 : decode cX11_inStreet 39 = .ok (.iload_n 2, 1) := by decide +kernel
theorem dX11_inStreet_40 : decode cX11_inStreet 40 = .ok (.ireturn, 1) := by decide +kernel
theorem dX11_deep_0 : decode cX11_deep 0 = .ok (.iload_n 1, 1) := by decide +kernel
theorem dX11_deep_1 : decode cX11_deep 1 = .ok (.invokestatic 173, 3) := by decide +kernel
theorem dX11_deep_4 : decode cX11_deep 4 = .ok (.ifCond .ne 7, 3) := by decide +kernel
theorem dX11_deep_7 : decode cX11_deep 7 = .ok (.iconst (-1), 1) := by decide +kernel
theorem dX11_deep_8 : decode cX11_deep 8 = .ok (.goto 32, 3) := by decide +kernel
theorem dX11_deep_11 : decode cX11_deep 11 = .ok (.aload_n 0, 1) := by decide +kernel
theorem dX11_deep_12 : decode cX11_deep 12 = .ok (.getfield 126, 3) := by decide +kernel
theorem dX11_deep_15 : decode cX11_deep 15 = .ok (.ifCond .ne 8, 3) := by decide +kernel
theorem dX11_deep_18 : decode cX11_deep 18 = .ok (.bipush (-4), 2) := by decide +kernel
theorem dX11_deep_20 : decode cX11_deep 20 = .ok (.goto 20, 3) := by decide +kernel
theorem dX11_deep_23 : decode cX11_deep 23 = .ok (.aload_n 0, 1) := by decide +kernel
theorem dX11_deep_24 : decode cX11_deep 24 = .ok (.aload_n 0, 1) := by decide +kernel
theorem dX11_deep_25 : decode cX11_deep 25 = .ok (.iload_n 1, 1) := by decide +kernel
theorem dX11_deep_26 : decode cX11_deep 26 = .ok (.invokevirtual 176, 3) := by decide +kernel
theorem dX11_deep_29 : decode cX11_deep 29 = .ok (.aload_n 0, 1) := by decide +kernel
theorem dX11_deep_30 : decode cX11_deep 30 = .ok (.getfield 48, 3) := by decide +kernel
theorem dX11_deep_33 : decode cX11_deep 33 = .ok (.iconst 1, 1) := by decide +kernel
theorem dX11_deep_34 : decode cX11_deep 34 = .ok (.iload_n 1, 1) := by decide +kernel
theorem dX11_deep_35 : decode cX11_deep 35 = .ok (.iadd, 1) := by decide +kernel
theorem dX11_deep_36 : decode cX11_deep 36 = .ok (.iaload, 1) := by decide +kernel
theorem dX11_deep_37 : decode cX11_deep 37 = .ok (.invokevirtual 92, 3) := by decide +kernel
theorem dX11_deep_40 : decode cX11_deep 40 = .ok (.ireturn, 1) := by decide +kernel
theorem dX11_mark_0 : decode cX11_mark 0 = .ok (.aload_n 0, 1) := by decide +kernel
theorem dX11_mark_1 : decode cX11_mark 1 = .ok (.iload_n 1, 1) := by decide +kernel
theorem dX11_mark_2 : decode cX11_mark 2 = .ok (.invokevirtual 167, 3) := by decide +kernel
theorem dX11_mark_5 : decode cX11_mark 5 = .ok (.ifCond .eq 12, 3) := by decide +kernel
theorem dX11_mark_8 : decode cX11_mark 8 = .ok (.iload_n 2, 1) := by decide +kernel
theorem dX11_mark_9 : decode cX11_mark 9 = .ok (.iconst 1, 1) := by decide +kernel
theorem dX11_mark_10 : decode cX11_mark 10 = .ok (.iconst 5, 1) := by decide +kernel
theorem dX11_mark_11 : decode cX11_mark 11 = .ok (.invokestatic 76, 3) := by decide +kernel
theorem dX11_mark_14 : decode cX11_mark 14 = .ok (.ifCond .ne 5, 3) := by decide +kernel
theorem dX11_mark_17 : decode cX11_mark 17 = .ok (.iconst (-1), 1) := by decide +kernel
theorem dX11_mark_18 : decode cX11_mark 18 = .ok (.ireturn, 1) := by decide +kernel
theorem dX11_mark_19 : decode cX11_mark 19 = .ok (.aload_n 0, 1) := by decide +kernel
theorem dX11_mark_20 : decode cX11_mark 20 = .ok (.getfield 39, 3) := by decide +kernel
theorem dX11_mark_23 : decode cX11_mark 23 = .ok (.iload_n 1, 1) := by decide +kernel
theorem dX11_mark_24 : decode cX11_mark 24 = .ok (.iaload, 1) := by decide +kernel
theorem dX11_mark_25 : decode cX11_mark 25 = .ok (.iload_n 2, 1) := by decide +kernel
theorem dX11_mark_26 : decode cX11_mark 26 = .ok (.invokestatic 143, 3) := by decide +kernel
theorem dX11_mark_29 : decode cX11_mark 29 = .ok (.ifCond .ne 9, 3) := by decide +kernel
theorem dX11_mark_32 : decode cX11_mark 32 = .ok (.aload_n 0, 1) := by decide +kernel
theorem dX11_mark_33 : decode cX11_mark 33 = .ok (.iconst 3, 1) := by decide +kernel
theorem dX11_mark_34 : decode cX11_mark 34 = .ok (.invokevirtual 84, 3) := by decide +kernel
theorem dX11_mark_37 : decode cX11_mark 37 = .ok (.ireturn, 1) := by decide +kernel
theorem dX11_mark_38 : decode cX11_mark 38 = .ok (.aload_n 0, 1) := by decide +kernel
theorem dX11_mark_39 : decode cX11_mark 39 = .ok (.aload_n 0, 1) := by decide +kernel
theorem dX11_mark_40 : decode cX11_mark 40 = .ok (.getfield 48, 3) := by decide +kernel
theorem dX11_mark_43 : decode cX11_mark 43 = .ok (.iload_n 1, 1) := by decide +kernel
theorem dX11_mark_44 : decode cX11_mark 44 = .ok (.invokevirtual 147, 3) := by decide +kernel
theorem dX11_mark_47 : decode cX11_mark 47 = .ok (.ifCond .eq 24, 3) := by decide +kernel
theorem dX11_mark_50 : decode cX11_mark 50 = .ok (.aload_n 0, 1) := by decide +kernel
theorem dX11_mark_51 : decode cX11_mark 51 = .ok (.aload_n 0, 1) := by decide +kernel
theorem dX11_mark_52 : decode cX11_mark 52 = .ok (.getfield 48, 3) := by decide +kernel
theorem dX11_mark_55 : decode cX11_mark 55 = .ok (.aload_n 0, 1) := by decide +kernel
theorem dX11_mark_56 : decode cX11_mark 56 = .ok (.getfield 45, 3) := by decide +kernel
theorem dX11_mark_59 : decode cX11_mark 59 = .ok (.iload_n 1, 1) := by decide +kernel
theorem dX11_mark_60 : decode cX11_mark 60 = .ok (.iaload, 1) := by decide +kernel
theorem dX11_mark_61 : decode cX11_mark 61 = .ok (.invokevirtual 139, 3) := by decide +kernel
theorem dX11_mark_64 : decode cX11_mark 64 = .ok (.ifCond .ne 7, 3) := by decide +kernel
theorem dX11_mark_67 : decode cX11_mark 67 = .ok (.iconst 1, 1) := by decide +kernel
theorem dX11_mark_68 : decode cX11_mark 68 = .ok (.goto 4, 3) := by decide +kernel
theorem dX11_mark_71 : decode cX11_mark 71 = .ok (.iconst 0, 1) := by decide +kernel
theorem dX11_mark_72 : decode cX11_mark 72 = .ok (.istore_n 3, 1) := by decide +kernel
theorem dX11_mark_73 : decode cX11_mark 73 = .ok (.iload_n 2, 1) := by decide +kernel
theorem dX11_mark_74 : decode cX11_mark 74 = .ok (.tableswitch 78 1 4 #[30, 44, 55, 68], 30) := by decide +kernel
theorem dX11_mark_104 : decode cX11_mark 104 = .ok (.aload_n 0, 1) := by decide +kernel
theorem dX11_mark_105 : decode cX11_mark 105 = .ok (.getfield 48, 3) := by decide +kernel
theorem dX11_mark_108 : decode cX11_mark 108 = .ok (.bipush 6, 2) := by decide +kernel
theorem dX11_mark_110 : decode cX11_mark 110 = .ok (.iload_n 1, 1) := by decide +kernel
theorem dX11_mark_111 : decode cX11_mark 111 = .ok (.iadd, 1) := by decide +kernel
theorem dX11_mark_112 : decode cX11_mark 112 = .ok (.iaload, 1) := by decide +kernel
theorem dX11_mark_113 : decode cX11_mark 113 = .ok (.iconst 1, 1) := by decide +kernel
theorem dX11_mark_114 : decode cX11_mark 114 = .ok (.iadd, 1) := by decide +kernel
theorem dX11_mark_115 : decode cX11_mark 115 = .ok (.iconst 2, 1) := by decide +kernel
theorem dX11_mark_116 : decode cX11_mark 116 = .ok (.idiv, 1) := by decide +kernel
theorem dX11_mark_117 : decode cX11_mark 117 = .ok (.ireturn, 1) := by decide +kernel
theorem dX11_mark_118 : decode cX11_mark 118 = .ok (.iconst 1, 1) := by decide +kernel
theorem dX11_mark_119 : decode cX11_mark 119 = .ok (.aload_n 0, 1) := by decide +kernel
theorem dX11_mark_120 : decode cX11_mark 120 = .ok (.getfield 48, 3) := by decide +kernel
theorem dX11_mark_123 : decode cX11_mark 123 = .ok (.iconst 0, 1) := by decide +kernel
theorem dX11_mark_124 : decode cX11_mark 124 = .ok (.iaload, 1) := by decide +kernel
theorem dX11_mark_125 : decode cX11_mark 125 = .ok (.iconst 2, 1) := by decide +kernel
theorem dX11_mark_126 : decode cX11_mark 126 = .ok (.irem, 1) := by decide +kernel
theorem dX11_mark_127 : decode cX11_mark 127 = .ok (.isub, 1) := by decide +kernel
theorem dX11_mark_128 : decode cX11_mark 128 = .ok (.ireturn, 1) := by decide +kernel
theorem dX11_mark_129 : decode cX11_mark 129 = .ok (.aload_n 0, 1) := by decide +kernel
theorem dX11_mark_130 : decode cX11_mark 130 = .ok (.getfield 42, 3) := by decide +kernel
theorem dX11_mark_133 : decode cX11_mark 133 = .ok (.iload_n 1, 1) := by decide +kernel
theorem dX11_mark_134 : decode cX11_mark 134 = .ok (.iaload, 1) := by decide +kernel
theorem dX11_mark_135 : decode cX11_mark 135 = .ok (.aload_n 0, 1) := by decide +kernel
theorem dX11_mark_136 : decode cX11_mark 136 = .ok (.iload_n 1, 1) := by decide +kernel
theorem dX11_mark_137 : decode cX11_mark 137 = .ok (.invokevirtual 132, 3) := by decide +kernel
theorem dX11_mark_140 : decode cX11_mark 140 = .ok (.isub, 1) := by decide +kernel
theorem dX11_mark_141 : decode cX11_mark 141 = .ok (.ireturn, 1) := by decide +kernel
theorem dX11_mark_142 : decode cX11_mark 142 = .ok (.iload_n 3, 1) := by decide +kernel
theorem dX11_mark_143 : decode cX11_mark 143 = .ok (.ifCond .eq 7, 3) := by decide +kernel
theorem dX11_mark_146 : decode cX11_mark 146 = .ok (.iconst 1, 1) := by decide +kernel
theorem dX11_mark_147 : decode cX11_mark 147 = .ok (.goto 4, 3) := by decide +kernel
theorem dX11_mark_150 : decode cX11_mark 150 = .ok (.iconst 0, 1) := by decide +kernel
theorem dX11_mark_151 : decode cX11_mark 151 = .ok (.ireturn, 1) := by decide +kernel
theorem dX11_mark_152 : decode cX11_mark 152 = .ok (.iload_n 3, 1) := by decide +kernel
theorem dX11_mark_153 : decode cX11_mark 153 = .ok (.ifCond .eq 21, 3) := by decide +kernel
theorem dX11_mark_156 : decode cX11_mark 156 = .ok (.aload_n 0, 1) := by decide +kernel
theorem dX11_mark_157 : decode cX11_mark 157 = .ok (.getfield 48, 3) := by decide +kernel
theorem dX11_mark_160 : decode cX11_mark 160 = .ok (.bipush 6, 2) := by decide +kernel
theorem dX11_mark_162 : decode cX11_mark 162 = .ok (.iload_n 1, 1) := by decide +kernel
theorem dX11_mark_163 : decode cX11_mark 163 = .ok (.iadd, 1) := by decide +kernel
theorem dX11_mark_164 : decode cX11_mark 164 = .ok (.iaload, 1) := by decide +kernel
theorem dX11_mark_165 : decode cX11_mark 165 = .ok (.bipush 9, 2) := by decide +kernel
theorem dX11_mark_167 : decode cX11_mark 167 = .ok (.if_icmp .ge 7, 3) := by decide +kernel
theorem dX11_mark_170 : decode cX11_mark 170 = .ok (.iconst 1, 1) := by decide +kernel
theorem dX11_mark_171 : decode cX11_mark 171 = .ok (.goto 4, 3) := by decide +kernel
theorem dX11_mark_174 : decode cX11_mark 174 = .ok (.iconst 0, 1) := by decide +kernel
theorem dX11_mark_175 : decode cX11_mark 175 = .ok (.ireturn, 1) := by decide +kernel
theorem dX11_remember_0 : decode cX11_remember 0 = .ok (.iconst 0, 1) := by decide +kernel
theorem dX11_remember_1 : decode cX11_remember 1 = .ok (.istore_n 1, 1) := by decide +kernel
theorem dX11_remember_2 : decode cX11_remember 2 = .ok (.iload_n 1, 1) := by decide +kernel
theorem dX11_remember_3 : decode cX11_remember 3 = .ok (.bipush 20, 2) := by decide +kernel
theorem dX11_remember_5 : decode cX11_remember 5 = .ok (.if_icmp .ge 29, 3) := by decide +kernel
theorem dX11_remember_8 : decode cX11_remember 8 = .ok (.aload_n 0, 1) := by decide +kernel
theorem dX11_remember_9 : decode cX11_remember 9 = .ok (.getfield 54, 3) := by decide +kernel
theorem dX11_remember_12 : decode cX11_remember 12 = .ok (.bipush 20, 2) := by decide +kernel
theorem dX11_remember_14 : decode cX11_remember 14 = .ok (.aload_n 0, 1) := by decide +kernel
theorem dX11_remember_15 : decode cX11_remember 15 = .ok (.getfield 129, 3) := by decide +kernel
theorem dX11_remember_18 : decode cX11_remember 18 = .ok (.imul, 1) := by decide +kernel
theorem dX11_remember_19 : decode cX11_remember 19 = .ok (.iload_n 1, 1) := by decide +kernel
theorem dX11_remember_20 : decode cX11_remember 20 = .ok (.iadd, 1) := by decide +kernel
theorem dX11_remember_21 : decode cX11_remember 21 = .ok (.aload_n 0, 1) := by decide +kernel
theorem dX11_remember_22 : decode cX11_remember 22 = .ok (.getfield 48, 3) := by decide +kernel
theorem dX11_remember_25 : decode cX11_remember 25 = .ok (.iload_n 1, 1) := by decide +kernel
theorem dX11_remember_26 : decode cX11_remember 26 = .ok (.iaload, 1) := by decide +kernel
theorem dX11_remember_27 : decode cX11_remember 27 = .ok (.iastore, 1) := by decide +kernel
theorem dX11_remember_28 : decode cX11_remember 28 = .ok (.iinc 1 1, 3) := by decide +kernel
theorem dX11_remember_31 : decode cX11_remember 31 = .ok (.goto (-29), 3) := by decide +kernel
theorem dX11_remember_34 : decode cX11_remember 34 = .ok (.aload_n 0, 1) := by decide +kernel
theorem dX11_remember_35 : decode cX11_remember 35 = .ok (.dup, 1) := by decide +kernel
theorem dX11_remember_36 : decode cX11_remember 36 = .ok (.getfield 129, 3) := by decide +kernel
theorem dX11_remember_39 : decode cX11_remember 39 = .ok (.iconst 1, 1) := by decide +kernel
theorem dX11_remember_40 : decode cX11_remember 40 = .ok (.iadd, 1) := by decide +kernel
theorem dX11_remember_41 : decode cX11_remember 41 = .ok (.putfield 129, 3) := by decide +kernel
theorem dX11_remember_44 : decode cX11_remember 44 = .ok (.return_, 1) := by decide +kernel
theorem dX11_undo_0 : decode cX11_undo 0 = .ok (.iload_n 1, 1) := by decide +kernel
theorem dX11_undo_1 : decode cX11_undo 1 = .ok (.iconst 0, 1) := by decide +kernel
theorem dX11_undo_2 : decode cX11_undo 2 = .ok (.aload_n 0, 1) := by decide +kernel
theorem dX11_undo_3 : decode cX11_undo 3 = .ok (.getfield 129, 3) := by decide +kernel
theorem dX11_undo_6 : decode cX11_undo 6 = .ok (.invokestatic 76, 3) := by decide +kernel
theorem dX11_undo_9 : decode cX11_undo 9 = .ok (.ifCond .ne 5, 3) := by decide +kernel
theorem dX11_undo_12 : decode cX11_undo 12 = .ok (.iconst (-1), 1) := by decide +kernel
theorem dX11_undo_13 : decode cX11_undo 13 = .ok (.ireturn, 1) := by decide +kernel
theorem dX11_undo_14 : decode cX11_undo 14 = .ok (.aload_n 0, 1) := by decide +kernel
theorem dX11_undo_15 : decode cX11_undo 15 = .ok (.getfield 129, 3) := by decide +kernel
theorem dX11_undo_18 : decode cX11_undo 18 = .ok (.iload_n 1, 1) := by decide +kernel
theorem dX11_undo_19 : decode cX11_undo 19 = .ok (.isub, 1) := by decide +kernel
theorem dX11_undo_20 : decode cX11_undo 20 = .ok (.istore_n 2, 1) := by decide +kernel
theorem dX11_undo_21 : decode cX11_undo 21 = .ok (.iconst 0, 1) := by decide +kernel
theorem dX11_undo_22 : decode cX11_undo 22 = .ok (.istore_n 3, 1) := by decide +kernel
theorem dX11_undo_23 : decode cX11_undo 23 = .ok (.iload_n 3, 1) := by decide +kernel
theorem dX11_undo_24 : decode cX11_undo 24 = .ok (.bipush 20, 2) := by decide +kernel
theorem dX11_undo_26 : decode cX11_undo 26 = .ok (.if_icmp .ge 30, 3) := by decide +kernel
theorem dX11_undo_29 : decode cX11_undo 29 = .ok (.iload_n 2, 1) := by decide +kernel
theorem dX11_undo_30 : decode cX11_undo 30 = .ok (.ifCond .le 26, 3) := by decide +kernel
theorem dX11_undo_33 : decode cX11_undo 33 = .ok (.aload_n 0, 1) := by decide +kernel
theorem dX11_undo_34 : decode cX11_undo 34 = .ok (.getfield 48, 3) := by decide +kernel
theorem dX11_undo_37 : decode cX11_undo 37 = .ok (.iload_n 3, 1) := by decide +kernel
theorem dX11_undo_38 : decode cX11_undo 38 = .ok (.aload_n 0, 1) := by decide +kernel
theorem dX11_undo_39 : decode cX11_undo 39 = .ok (.getfield 54, 3) := by decide +kernel
theorem dX11_undo_42 : decode cX11_undo 42 = .ok (.bipush 20, 2) := by decide +kernel
theorem dX11_undo_44 : decode cX11_undo 44 = .ok (.iload_n 1, 1) := by decide +kernel
theorem dX11_undo_45 : decode cX11_undo 45 = .ok (.imul, 1) := by decide +kernel
theorem dX11_undo_46 : decode cX11_undo 46 = .ok (.iload_n 3, 1) := by decide +kernel
theorem dX11_undo_47 : decode cX11_undo 47 = .ok (.iadd, 1) := by decide +kernel
theorem dX11_undo_48 : decode cX11_undo 48 = .ok (.iaload, 1) := by decide +kernel
theorem dX11_undo_49 : decode cX11_undo 49 = .ok (.iastore, 1) := by decide +kernel
theorem dX11_undo_50 : decode cX11_undo 50 = .ok (.iinc 3 1, 3) := by decide +kernel
theorem dX11_undo_53 : decode cX11_undo 53 = .ok (.goto (-30), 3) := by decide +kernel
theorem dX11_undo_56 : decode cX11_undo 56 = .ok (.aload_n 0, 1) := by decide +kernel
theorem dX11_undo_57 : decode cX11_undo 57 = .ok (.iload_n 1, 1) := by decide +kernel
theorem dX11_undo_58 : decode cX11_undo 58 = .ok (.putfield 129, 3) := by decide +kernel
theorem dX11_undo_61 : decode cX11_undo 61 = .ok (.iload_n 2, 1) := by decide +kernel
theorem dX11_undo_62 : decode cX11_undo 62 = .ok (.ireturn, 1) := by decide +kernel
theorem dX11_keep_0 : decode cX11_keep 0 = .ok (.iload_n 1, 1) := by decide +kernel
theorem dX11_keep_1 : decode cX11_keep 1 = .ok (.iconst 0, 1) := by decide +kernel
theorem dX11_keep_2 : decode cX11_keep 2 = .ok (.iconst 2, 1) := by decide +kernel
theorem dX11_keep_3 : decode cX11_keep 3 = .ok (.invokestatic 76, 3) := by decide +kernel
theorem dX11_keep_6 : decode cX11_keep 6 = .ok (.ifCond .ne 5, 3) := by decide +kernel
theorem dX11_keep_9 : decode cX11_keep 9 = .ok (.iconst (-1), 1) := by decide +kernel
theorem dX11_keep_10 : decode cX11_keep 10 = .ok (.ireturn, 1) := by decide +kernel
theorem dX11_keep_11 : decode cX11_keep 11 = .ok (.aload_n 0, 1) := by decide +kernel
theorem dX11_keep_12 : decode cX11_keep 12 = .ok (.getfield 126, 3) := by decide +kernel
theorem dX11_keep_15 : decode cX11_keep 15 = .ok (.ifCond .ne 6, 3) := by decide +kernel
theorem dX11_keep_18 : decode cX11_keep 18 = .ok (.bipush (-4), 2) := by decide +kernel
theorem dX11_keep_20 : decode cX11_keep 20 = .ok (.ireturn, 1) := by decide +kernel
theorem dX11_keep_21 : decode cX11_keep 21 = .ok (.aload_n 0, 1) := by decide +kernel
theorem dX11_keep_22 : decode cX11_keep 22 = .ok (.getfield 57, 3) := by decide +kernel
theorem dX11_keep_25 : decode cX11_keep 25 = .ok (.iload_n 1, 1) := by decide +kernel
theorem dX11_keep_26 : decode cX11_keep 26 = .ok (.aload_n 0, 1) := by decide +kernel
theorem dX11_keep_27 : decode cX11_keep 27 = .ok (.getfield 129, 3) := by decide +kernel
theorem dX11_keep_30 : decode cX11_keep 30 = .ok (.iastore, 1) := by decide +kernel
theorem dX11_keep_31 : decode cX11_keep 31 = .ok (.iconst 0, 1) := by decide +kernel
theorem dX11_keep_32 : decode cX11_keep 32 = .ok (.istore_n 2, 1) := by decide +kernel
theorem dX11_keep_33 : decode cX11_keep 33 = .ok (.iload_n 2, 1) := by decide +kernel
theorem dX11_keep_34 : decode cX11_keep 34 = .ok (.bipush 20, 2) := by decide +kernel
theorem dX11_keep_36 : decode cX11_keep 36 = .ok (.if_icmp .ge 27, 3) := by decide +kernel
theorem dX11_keep_39 : decode cX11_keep 39 = .ok (.aload_n 0, 1) := by decide +kernel
theorem dX11_keep_40 : decode cX11_keep 40 = .ok (.getfield 60, 3) := by decide +kernel
theorem dX11_keep_43 : decode cX11_keep 43 = .ok (.sipush 820, 3) := by decide +kernel
theorem dX11_keep_46 : decode cX11_keep 46 = .ok (.iload_n 1, 1) := by decide +kernel
theorem dX11_keep_47 : decode cX11_keep 47 = .ok (.imul, 1) := by decide +kernel
theorem dX11_keep_48 : decode cX11_keep 48 = .ok (.iload_n 2, 1) := by decide +kernel
theorem dX11_keep_49 : decode cX11_keep 49 = .ok (.iadd, 1) := by decide +kernel
theorem dX11_keep_50 : decode cX11_keep 50 = .ok (.aload_n 0, 1) := by decide +kernel
theorem dX11_keep_51 : decode cX11_keep 51 = .ok (.getfield 48, 3) := by decide +kernel
theorem dX11_keep_54 : decode cX11_keep 54 = .ok (.iload_n 2, 1) := by decide +kernel
theorem dX11_keep_55 : decode cX11_keep 55 = .ok (.iaload, 1) := by decide +kernel
theorem dX11_keep_56 : decode cX11_keep 56 = .ok (.iastore, 1) := by decide +kernel
theorem dX11_keep_57 : decode cX11_keep 57 = .ok (.iinc 2 1, 3) := by decide +kernel
theorem dX11_keep_60 : decode cX11_keep 60 = .ok (.goto (-27), 3) := by decide +kernel
theorem dX11_keep_63 : decode cX11_keep 63 = .ok (.iconst 0, 1) := by decide +kernel
theorem dX11_keep_64 : decode cX11_keep 64 = .ok (.istore_n 2, 1) := by decide +kernel
theorem dX11_keep_65 : decode cX11_keep 65 = .ok (.iload_n 2, 1) := by decide +kernel
theorem dX11_keep_66 : decode cX11_keep 66 = .ok (.bipush 20, 2) := by decide +kernel
theorem dX11_keep_68 : decode cX11_keep 68 = .ok (.aload_n 0, 1) := by decide +kernel
theorem dX11_keep_69 : decode cX11_keep 69 = .ok (.getfield 129, 3) := by decide +kernel
theorem dX11_keep_72 : decode cX11_keep 72 = .ok (.imul, 1) := by decide +kernel
theorem dX11_keep_73 : decode cX11_keep 73 = .ok (.if_icmp .ge 30, 3) := by decide +kernel
theorem dX11_keep_76 : decode cX11_keep 76 = .ok (.aload_n 0, 1) := by decide +kernel
theorem dX11_keep_77 : decode cX11_keep 77 = .ok (.getfield 60, 3) := by decide +kernel
theorem dX11_keep_80 : decode cX11_keep 80 = .ok (.sipush 820, 3) := by decide +kernel
theorem dX11_keep_83 : decode cX11_keep 83 = .ok (.iload_n 1, 1) := by decide +kernel
theorem dX11_keep_84 : decode cX11_keep 84 = .ok (.imul, 1) := by decide +kernel
theorem dX11_keep_85 : decode cX11_keep 85 = .ok (.bipush 20, 2) := by decide +kernel
theorem dX11_keep_87 : decode cX11_keep 87 = .ok (.iadd, 1) := by decide +kernel
theorem dX11_keep_88 : decode cX11_keep 88 = .ok (.iload_n 2, 1) := by decide +kernel
theorem dX11_keep_89 : decode cX11_keep 89 = .ok (.iadd, 1) := by decide +kernel
theorem dX11_keep_90 : decode cX11_keep 90 = .ok (.aload_n 0, 1) := by decide +kernel
theorem dX11_keep_91 : decode cX11_keep 91 = .ok (.getfield 54, 3) := by decide +kernel
theorem dX11_keep_94 : decode cX11_keep 94 = .ok (.iload_n 2, 1) := by decide +kernel
theorem dX11_keep_95 : decode cX11_keep 95 = .ok (.iaload, 1) := by decide +kernel
theorem dX11_keep_96 : decode cX11_keep 96 = .ok (.iastore, 1) := by decide +kernel
theorem dX11_keep_97 : decode cX11_keep 97 = .ok (.iinc 2 1, 3) := by decide +kernel
theorem dX11_keep_100 : decode cX11_keep 100 = .ok (.goto (-35), 3) := by decide +kernel
theorem dX11_keep_103 : decode cX11_keep 103 = .ok (.aload_n 0, 1) := by decide +kernel
theorem dX11_keep_104 : decode cX11_keep 104 = .ok (.getfield 129, 3) := by decide +kernel
theorem dX11_keep_107 : decode cX11_keep 107 = .ok (.ireturn, 1) := by decide +kernel
