theorem dL_cell_0 : decode cL_cell 0 = .ok (.iload_n 1, 1) := by decide +kernel
theorem dL_cell_1 : decode cL_cell 1 = .ok (.aload_n 0, 1) := by decide +kernel
theorem dL_cell_2 : decode cL_cell 2 = .ok (.arraylength, 1) := by decide +kernel
theorem dL_cell_3 : decode cL_cell 3 = .ok (.if_icmp .ge 9, 3) := by decide +kernel
theorem dL_cell_6 : decode cL_cell 6 = .ok (.aload_n 0, 1) := by decide +kernel
theorem dL_cell_7 : decode cL_cell 7 = .ok (.iload_n 1, 1) := by decide +kernel
theorem dL_cell_8 : decode cL_cell 8 = .ok (.iaload, 1) := by decide +kernel
theorem dL_cell_9 : decode cL_cell 9 = .ok (.goto 12, 3) := by decide +kernel
theorem dL_cell_12 : decode cL_cell 12 = .ok (.ldc 7, 2) := by decide +kernel
theorem dL_cell_14 : decode cL_cell 14 = .ok (.iload_n 1, 1) := by decide +kernel
theorem dL_cell_15 : decode cL_cell 15 = .ok (.iconst 1, 1) := by decide +kernel
theorem dL_cell_16 : decode cL_cell 16 = .ok (.iadd, 1) := by decide +kernel
theorem dL_cell_17 : decode cL_cell 17 = .ok (.imul, 1) := by decide +kernel
theorem dL_cell_18 : decode cL_cell 18 = .ok (.ldc 8, 2) := by decide +kernel
theorem dL_cell_20 : decode cL_cell 20 = .ok (.iadd, 1) := by decide +kernel
theorem dL_cell_21 : decode cL_cell 21 = .ok (.ireturn, 1) := by decide +kernel
theorem dL_low_0 : decode cL_low 0 = .ok (.iload_n 0, 1) := by decide +kernel
theorem dL_low_1 : decode cL_low 1 = .ok (.ldc 9, 2) := by decide +kernel
theorem dL_low_3 : decode cL_low 3 = .ok (.iand, 1) := by decide +kernel
theorem dL_low_4 : decode cL_low 4 = .ok (.iload_n 1, 1) := by decide +kernel
theorem dL_low_5 : decode cL_low 5 = .ok (.irem, 1) := by decide +kernel
theorem dL_low_6 : decode cL_low 6 = .ok (.ireturn, 1) := by decide +kernel
theorem dL_part_0 : decode cL_part 0 = .ok (.iload_n 2, 1) := by decide +kernel
theorem dL_part_1 : decode cL_part 1 = .ok (.ifCond .ne 13, 3) := by decide +kernel
theorem dL_part_4 : decode cL_part 4 = .ok (.aload_n 0, 1) := by decide +kernel
theorem dL_part_5 : decode cL_part 5 = .ok (.iload_n 1, 1) := by decide +kernel
theorem dL_part_6 : decode cL_part 6 = .ok (.laload, 1) := by decide +kernel
theorem dL_part_7 : decode cL_part 7 = .ok (.ldc2_w 10, 3) := by decide +kernel
theorem dL_part_10 : decode cL_part 10 = .ok (.lrem, 1) := by decide +kernel
theorem dL_part_11 : decode cL_part 11 = .ok (.goto 75, 3) := by decide +kernel
theorem dL_part_14 : decode cL_part 14 = .ok (.iload_n 2, 1) := by decide +kernel
theorem dL_part_15 : decode cL_part 15 = .ok (.iconst 1, 1) := by decide +kernel
theorem dL_part_16 : decode cL_part 16 = .ok (.if_icmp .ne 19, 3) := by decide +kernel
theorem dL_part_19 : decode cL_part 19 = .ok (.aload_n 0, 1) := by decide +kernel
theorem dL_part_20 : decode cL_part 20 = .ok (.iload_n 1, 1) := by decide +kernel
theorem dL_part_21 : decode cL_part 21 = .ok (.laload, 1) := by decide +kernel
theorem dL_part_22 : decode cL_part 22 = .ok (.ldc2_w 10, 3) := by decide +kernel
theorem dL_part_25 : decode cL_part 25 = .ok (.ldiv, 1) := by decide +kernel
theorem dL_part_26 : decode cL_part 26 = .ok (.ldc2_w 10, 3) := by decide +kernel
theorem dL_part_29 : decode cL_part 29 = .ok (.lrem, 1) := by decide +kernel
theorem dL_part_30 : decode cL_part 30 = .ok (.lconst 1, 1) := by decide +kernel
theorem dL_part_31 : decode cL_part 31 = .ok (.lsub, 1) := by decide +kernel
theorem dL_part_32 : decode cL_part 32 = .ok (.goto 54, 3) := by decide +kernel
theorem dL_part_35 : decode cL_part 35 = .ok (.iload_n 2, 1) := by decide +kernel
theorem dL_part_36 : decode cL_part 36 = .ok (.iconst 2, 1) := by decide +kernel
theorem dL_part_37 : decode cL_part 37 = .ok (.if_icmp .ne 17, 3) := by decide +kernel
theorem dL_part_40 : decode cL_part 40 = .ok (.aload_n 0, 1) := by decide +kernel
theorem dL_part_41 : decode cL_part 41 = .ok (.iload_n 1, 1) := by decide +kernel
theorem dL_part_42 : decode cL_part 42 = .ok (.laload, 1) := by decide +kernel
theorem dL_part_43 : decode cL_part 43 = .ok (.ldc2_w 12, 3) := by decide +kernel
theorem dL_part_46 : decode cL_part 46 = .ok (.ldiv, 1) := by decide +kernel
theorem dL_part_47 : decode cL_part 47 = .ok (.ldc2_w 14, 3) := by decide +kernel
theorem dL_part_50 : decode cL_part 50 = .ok (.lrem, 1) := by decide +kernel
theorem dL_part_51 : decode cL_part 51 = .ok (.goto 35, 3) := by decide +kernel
theorem dL_part_54 : decode cL_part 54 = .ok (.iload_n 2, 1) := by decide +kernel
theorem dL_part_55 : decode cL_part 55 = .ok (.iconst 3, 1) := by decide +kernel
theorem dL_part_56 : decode cL_part 56 = .ok (.if_icmp .ne 19, 3) := by decide +kernel
theorem dL_part_59 : decode cL_part 59 = .ok (.aload_n 0, 1) := by decide +kernel
theorem dL_part_60 : decode cL_part 60 = .ok (.iload_n 1, 1) := by decide +kernel
theorem dL_part_61 : decode cL_part 61 = .ok (.laload, 1) := by decide +kernel
theorem dL_part_62 : decode cL_part 62 = .ok (.ldc2_w 16, 3) := by decide +kernel
theorem dL_part_65 : decode cL_part 65 = .ok (.ldiv, 1) := by decide +kernel
theorem dL_part_66 : decode cL_part 66 = .ok (.ldc2_w 12, 3) := by decide +kernel
theorem dL_part_69 : decode cL_part 69 = .ok (.lrem, 1) := by decide +kernel
theorem dL_part_70 : decode cL_part 70 = .ok (.lconst 1, 1) := by decide +kernel
theorem dL_part_71 : decode cL_part 71 = .ok (.lsub, 1) := by decide +kernel
theorem dL_part_72 : decode cL_part 72 = .ok (.goto 14, 3) := by decide +kernel
theorem dL_part_75 : decode cL_part 75 = .ok (.aload_n 0, 1) := by decide +kernel
theorem dL_part_76 : decode cL_part 76 = .ok (.iload_n 1, 1) := by decide +kernel
theorem dL_part_77 : decode cL_part 77 = .ok (.laload, 1) := by decide +kernel
theorem dL_part_78 : decode cL_part 78 = .ok (.ldc2_w 18, 3) := by decide +kernel
theorem dL_part_81 : decode cL_part 81 = .ok (.ldiv, 1) := by decide +kernel
theorem dL_part_82 : decode cL_part 82 = .ok (.ldc2_w 20, 3) := by decide +kernel
theorem dL_part_85 : decode cL_part 85 = .ok (.lrem, 1) := by decide +kernel
theorem dL_part_86 : decode cL_part 86 = .ok (.l2i, 1) := by decide +kernel
theorem dL_part_87 : decode cL_part 87 = .ok (.ireturn, 1) := by decide +kernel
theorem dL_isGone_0 : decode cL_isGone 0 = .ok (.aload_n 0, 1) := by decide +kernel
theorem dL_isGone_1 : decode cL_isGone 1 = .ok (.iload_n 1, 1) := by decide +kernel
theorem dL_isGone_2 : decode cL_isGone 2 = .ok (.laload, 1) := by decide +kernel
theorem dL_isGone_3 : decode cL_isGone 3 = .ok (.lconst 0, 1) := by decide +kernel
theorem dL_isGone_4 : decode cL_isGone 4 = .ok (.lcmp, 1) := by decide +kernel
theorem dL_isGone_5 : decode cL_isGone 5 = .ok (.ifCond .ge 7, 3) := by decide +kernel
theorem dL_isGone_8 : decode cL_isGone 8 = .ok (.iconst 1, 1) := by decide +kernel
theorem dL_isGone_9 : decode cL_isGone 9 = .ok (.goto 4, 3) := by decide +kernel
theorem dL_isGone_12 : decode cL_isGone 12 = .ok (.iconst 0, 1) := by decide +kernel
theorem dL_isGone_13 : decode cL_isGone 13 = .ok (.ireturn, 1) := by decide +kernel
theorem dL_time_0 : decode cL_time 0 = .ok (.aload_n 0, 1) := by decide +kernel
theorem dL_time_1 : decode cL_time 1 = .ok (.iload_n 2, 1) := by decide +kernel
theorem dL_time_2 : decode cL_time 2 = .ok (.iconst 4, 1) := by decide +kernel
theorem dL_time_3 : decode cL_time 3 = .ok (.invokestatic 22, 3) := by decide +kernel
theorem dL_time_6 : decode cL_time 6 = .ok (.aload_n 1, 1) := by decide +kernel
theorem dL_time_7 : decode cL_time 7 = .ok (.aload_n 0, 1) := by decide +kernel
theorem dL_time_8 : decode cL_time 8 = .ok (.iload_n 2, 1) := by decide +kernel
theorem dL_time_9 : decode cL_time 9 = .ok (.iconst 0, 1) := by decide +kernel
theorem dL_time_10 : decode cL_time 10 = .ok (.invokestatic 22, 3) := by decide +kernel
theorem dL_time_13 : decode cL_time 13 = .ok (.iaload, 1) := by decide +kernel
theorem dL_time_14 : decode cL_time 14 = .ok (.isub, 1) := by decide +kernel
theorem dL_time_15 : decode cL_time 15 = .ok (.istore_n 3, 1) := by decide +kernel
theorem dL_time_16 : decode cL_time 16 = .ok (.iload_n 3, 1) := by decide +kernel
theorem dL_time_17 : decode cL_time 17 = .ok (.ifCond .ge 7, 3) := by decide +kernel
theorem dL_time_20 : decode cL_time 20 = .ok (.iconst 0, 1) := by decide +kernel
theorem dL_time_21 : decode cL_time 21 = .ok (.goto 4, 3) := by decide +kernel
theorem dL_time_24 : decode cL_time 24 = .ok (.iload_n 3, 1) := by decide +kernel
theorem dL_time_25 : decode cL_time 25 = .ok (.ireturn, 1) := by decide +kernel
theorem dL_finds_0 : decode cL_finds 0 = .ok (.iconst 0, 1) := by decide +kernel
theorem dL_finds_1 : decode cL_finds 1 = .ok (.istore 4, 2) := by decide +kernel
theorem dL_finds_3 : decode cL_finds 3 = .ok (.iload 4, 2) := by decide +kernel
theorem dL_finds_5 : decode cL_finds 5 = .ok (.bipush 6, 2) := by decide +kernel
theorem dL_finds_7 : decode cL_finds 7 = .ok (.if_icmp .ge 29, 3) := by decide +kernel
theorem dL_finds_10 : decode cL_finds 10 = .ok (.aload_n 2, 1) := by decide +kernel
theorem dL_finds_11 : decode cL_finds 11 = .ok (.iload 4, 2) := by decide +kernel
theorem dL_finds_13 : decode cL_finds 13 = .ok (.iload 4, 2) := by decide +kernel
theorem dL_finds_15 : decode cL_finds 15 = .ok (.iconst 3, 1) := by decide +kernel
theorem dL_finds_16 : decode cL_finds 16 = .ok (.if_icmp .ge 8, 3) := by decide +kernel
theorem dL_finds_19 : decode cL_finds 19 = .ok (.iload 4, 2) := by decide +kernel
theorem dL_finds_21 : decode cL_finds 21 = .ok (.goto 8, 3) := by decide +kernel
theorem dL_finds_24 : decode cL_finds 24 = .ok (.bipush 7, 2) := by decide +kernel
theorem dL_finds_26 : decode cL_finds 26 = .ok (.iload 4, 2) := by decide +kernel
theorem dL_finds_28 : decode cL_finds 28 = .ok (.iadd, 1) := by decide +kernel
theorem dL_finds_29 : decode cL_finds 29 = .ok (.iastore, 1) := by decide +kernel
theorem dL_finds_30 : decode cL_finds 30 = .ok (.iinc 4 1, 3) := by decide +kernel
theorem dL_finds_33 : decode cL_finds 33 = .ok (.goto (-30), 3) := by decide +kernel
theorem dL_finds_36 : decode cL_finds 36 = .ok (.iconst 0, 1) := by decide +kernel
theorem dL_finds_37 : decode cL_finds 37 = .ok (.istore 4, 2) := by decide +kernel
theorem dL_finds_39 : decode cL_finds 39 = .ok (.iload 4, 2) := by decide +kernel
theorem dL_finds_41 : decode cL_finds 41 = .ok (.bipush 6, 2) := by decide +kernel
theorem dL_finds_43 : decode cL_finds 43 = .ok (.if_icmp .ge 196, 3) := by decide +kernel
theorem dL_finds_46 : decode cL_finds 46 = .ok (.iconst 0, 1) := by decide +kernel
theorem dL_finds_47 : decode cL_finds 47 = .ok (.istore 5, 2) := by decide +kernel
theorem dL_finds_49 : decode cL_finds 49 = .ok (.iload 5, 2) := by decide +kernel
theorem dL_finds_51 : decode cL_finds 51 = .ok (.iload_n 3, 1) := by decide +kernel
theorem dL_finds_52 : decode cL_finds 52 = .ok (.if_icmp .ge 181, 3) := by decide +kernel
theorem dL_finds_55 : decode cL_finds 55 = .ok (.aload_n 0, 1) := by decide +kernel
theorem dL_finds_56 : decode cL_finds 56 = .ok (.iload 5, 2) := by decide +kernel
theorem dL_finds_58 : decode cL_finds 58 = .ok (.invokestatic 28, 3) := by decide +kernel
theorem dL_finds_61 : decode cL_finds 61 = .ok (.ifCond .eq 7, 3) := by decide +kernel
theorem dL_finds_64 : decode cL_finds 64 = .ok (.iconst 0, 1) := by decide +kernel
theorem dL_finds_65 : decode cL_finds 65 = .ok (.goto 10, 3) := by decide +kernel
theorem dL_finds_68 : decode cL_finds 68 = .ok (.aload_n 0, 1) := by decide +kernel
theorem dL_finds_69 : decode cL_finds 69 = .ok (.iload 5, 2) := by decide +kernel
theorem dL_finds_71 : decode cL_finds 71 = .ok (.iconst 0, 1) := by decide +kernel
theorem dL_finds_72 : decode cL_finds 72 = .ok (.invokestatic 22, 3) := by decide +kernel
theorem dL_finds_75 : decode cL_finds 75 = .ok (.istore 6, 2) := by decide +kernel
theorem dL_finds_77 : decode cL_finds 77 = .ok (.aload_n 0, 1) := by decide +kernel
theorem dL_finds_78 : decode cL_finds 78 = .ok (.iload 5, 2) := by decide +kernel
theorem dL_finds_80 : decode cL_finds 80 = .ok (.invokestatic 28, 3) := by decide +kernel
theorem dL_finds_83 : decode cL_finds 83 = .ok (.ifCond .eq 7, 3) := by decide +kernel
theorem dL_finds_86 : decode cL_finds 86 = .ok (.iconst (-1), 1) := by decide +kernel
theorem dL_finds_87 : decode cL_finds 87 = .ok (.goto 10, 3) := by decide +kernel
theorem dL_finds_90 : decode cL_finds 90 = .ok (.aload_n 0, 1) := by decide +kernel
theorem dL_finds_91 : decode cL_finds 91 = .ok (.iload 5, 2) := by decide +kernel
theorem dL_finds_93 : decode cL_finds 93 = .ok (.iconst 1, 1) := by decide +kernel
theorem dL_finds_94 : decode cL_finds 94 = .ok (.invokestatic 22, 3) := by decide +kernel
theorem dL_finds_97 : decode cL_finds 97 = .ok (.istore 7, 2) := by decide +kernel
theorem dL_finds_99 : decode cL_finds 99 = .ok (.iload 7, 2) := by decide +kernel
theorem dL_finds_101 : decode cL_finds 101 = .ok (.ifCond .lt 126, 3) := by decide +kernel
theorem dL_finds_104 : decode cL_finds 104 = .ok (.aload_n 1, 1) := by decide +kernel
theorem dL_finds_105 : decode cL_finds 105 = .ok (.iconst 3, 1) := by decide +kernel
theorem dL_finds_106 : decode cL_finds 106 = .ok (.iload 6, 2) := by decide +kernel
theorem dL_finds_108 : decode cL_finds 108 = .ok (.iadd, 1) := by decide +kernel
theorem dL_finds_109 : decode cL_finds 109 = .ok (.iaload, 1) := by decide +kernel
theorem dL_finds_110 : decode cL_finds 110 = .ok (.iconst 1, 1) := by decide +kernel
theorem dL_finds_111 : decode cL_finds 111 = .ok (.if_icmp .eq 116, 3) := by decide +kernel
theorem dL_finds_114 : decode cL_finds 114 = .ok (.aload_n 1, 1) := by decide +kernel
theorem dL_finds_115 : decode cL_finds 115 = .ok (.bipush 6, 2) := by decide +kernel
theorem dL_finds_117 : decode cL_finds 117 = .ok (.iconst 3, 1) := by decide +kernel
theorem dL_finds_118 : decode cL_finds 118 = .ok (.iload 6, 2) := by decide +kernel
theorem dL_finds_120 : decode cL_finds 120 = .ok (.imul, 1) := by decide +kernel
theorem dL_finds_121 : decode cL_finds 121 = .ok (.iadd, 1) := by decide +kernel
theorem dL_finds_122 : decode cL_finds 122 = .ok (.iload 7, 2) := by decide +kernel
theorem dL_finds_124 : decode cL_finds 124 = .ok (.iadd, 1) := by decide +kernel
theorem dL_finds_125 : decode cL_finds 125 = .ok (.iaload, 1) := by decide +kernel
theorem dL_finds_126 : decode cL_finds 126 = .ok (.iconst 1, 1) := by decide +kernel
theorem dL_finds_127 : decode cL_finds 127 = .ok (.if_icmp .ne 6, 3) := by decide +kernel
theorem dL_finds_130 : decode cL_finds 130 = .ok (.goto 97, 3) := by decide +kernel
theorem dL_finds_133 : decode cL_finds 133 = .ok (.aload_n 2, 1) := by decide +kernel
theorem dL_finds_134 : decode cL_finds 134 = .ok (.iload 7, 2) := by decide +kernel
theorem dL_finds_136 : decode cL_finds 136 = .ok (.iaload, 1) := by decide +kernel
theorem dL_finds_137 : decode cL_finds 137 = .ok (.aload_n 2, 1) := by decide +kernel
theorem dL_finds_138 : decode cL_finds 138 = .ok (.iconst 3, 1) := by decide +kernel
theorem dL_finds_139 : decode cL_finds 139 = .ok (.iload 6, 2) := by decide +kernel
theorem dL_finds_141 : decode cL_finds 141 = .ok (.iadd, 1) := by decide +kernel
theorem dL_finds_142 : decode cL_finds 142 = .ok (.iaload, 1) := by decide +kernel
theorem dL_finds_143 : decode cL_finds 143 = .ok (.if_icmp .ge 10, 3) := by decide +kernel
theorem dL_finds_146 : decode cL_finds 146 = .ok (.aload_n 2, 1) := by decide +kernel
theorem dL_finds_147 : decode cL_finds 147 = .ok (.iload 7, 2) := by decide +kernel
theorem dL_finds_149 : decode cL_finds 149 = .ok (.iaload, 1) := by decide +kernel
theorem dL_finds_150 : decode cL_finds 150 = .ok (.goto 9, 3) := by decide +kernel
theorem dL_finds_153 : decode cL_finds 153 = .ok (.aload_n 2, 1) := by decide +kernel
theorem dL_finds_154 : decode cL_finds 154 = .ok (.iconst 3, 1) := by decide +kernel
theorem dL_finds_155 : decode cL_finds 155 = .ok (.iload 6, 2) := by decide +kernel
theorem dL_finds_157 : decode cL_finds 157 = .ok (.iadd, 1) := by decide +kernel
theorem dL_finds_158 : decode cL_finds 158 = .ok (.iaload, 1) := by decide +kernel
theorem dL_finds_159 : decode cL_finds 159 = .ok (.istore 8, 2) := by decide +kernel
theorem dL_finds_161 : decode cL_finds 161 = .ok (.aload_n 2, 1) := by decide +kernel
theorem dL_finds_162 : decode cL_finds 162 = .ok (.iload 7, 2) := by decide +kernel
theorem dL_finds_164 : decode cL_finds 164 = .ok (.iaload, 1) := by decide +kernel
theorem dL_finds_165 : decode cL_finds 165 = .ok (.aload_n 2, 1) := by decide +kernel
theorem dL_finds_166 : decode cL_finds 166 = .ok (.iconst 3, 1) := by decide +kernel
theorem dL_finds_167 : decode cL_finds 167 = .ok (.iload 6, 2) := by decide +kernel
theorem dL_finds_169 : decode cL_finds 169 = .ok (.iadd, 1) := by decide +kernel
theorem dL_finds_170 : decode cL_finds 170 = .ok (.iaload, 1) := by decide +kernel
theorem dL_finds_171 : decode cL_finds 171 = .ok (.if_icmp .ge 12, 3) := by decide +kernel
theorem dL_finds_174 : decode cL_finds 174 = .ok (.aload_n 2, 1) := by decide +kernel
theorem dL_finds_175 : decode cL_finds 175 = .ok (.iconst 3, 1) := by decide +kernel
theorem dL_finds_176 : decode cL_finds 176 = .ok (.iload 6, 2) := by decide +kernel
theorem dL_finds_178 : decode cL_finds 178 = .ok (.iadd, 1) := by decide +kernel
theorem dL_finds_179 : decode cL_finds 179 = .ok (.iaload, 1) := by decide +kernel
theorem dL_finds_180 : decode cL_finds 180 = .ok (.goto 7, 3) := by decide +kernel
theorem dL_finds_183 : decode cL_finds 183 = .ok (.aload_n 2, 1) := by decide +kernel
theorem dL_finds_184 : decode cL_finds 184 = .ok (.iload 7, 2) := by decide +kernel
theorem dL_finds_186 : decode cL_finds 186 = .ok (.iaload, 1) := by decide +kernel
theorem dL_finds_187 : decode cL_finds 187 = .ok (.istore 9, 2) := by decide +kernel
theorem dL_finds_189 : decode cL_finds 189 = .ok (.iconst 0, 1) := by decide +kernel
theorem dL_finds_190 : decode cL_finds 190 = .ok (.istore 10, 2) := by decide +kernel
theorem dL_finds_192 : decode cL_finds 192 = .ok (.iload 10, 2) := by decide +kernel
theorem dL_finds_194 : decode cL_finds 194 = .ok (.bipush 6, 2) := by decide +kernel
theorem dL_finds_196 : decode cL_finds 196 = .ok (.if_icmp .ge 31, 3) := by decide +kernel
theorem dL_finds_199 : decode cL_finds 199 = .ok (.aload_n 2, 1) := by decide +kernel
theorem dL_finds_200 : decode cL_finds 200 = .ok (.iload 10, 2) := by decide +kernel
theorem dL_finds_202 : decode cL_finds 202 = .ok (.aload_n 2, 1) := by decide +kernel
theorem dL_finds_203 : decode cL_finds 203 = .ok (.iload 10, 2) := by decide +kernel
theorem dL_finds_205 : decode cL_finds 205 = .ok (.iaload, 1) := by decide +kernel
theorem dL_finds_206 : decode cL_finds 206 = .ok (.iload 9, 2) := by decide +kernel
theorem dL_finds_208 : decode cL_finds 208 = .ok (.if_icmp .ne 8, 3) := by decide +kernel
theorem dL_finds_211 : decode cL_finds 211 = .ok (.iload 8, 2) := by decide +kernel
theorem dL_finds_213 : decode cL_finds 213 = .ok (.goto 7, 3) := by decide +kernel
theorem dL_finds_216 : decode cL_finds 216 = .ok (.aload_n 2, 1) := by decide +kernel
theorem dL_finds_217 : decode cL_finds 217 = .ok (.iload 10, 2) := by decide +kernel
theorem dL_finds_219 : decode cL_finds 219 = .ok (.iaload, 1) := by decide +kernel
theorem dL_finds_220 : decode cL_finds 220 = .ok (.iastore, 1) := by decide +kernel
theorem dL_finds_221 : decode cL_finds 221 = .ok (.iinc 10 1, 3) := by decide +kernel
theorem dL_finds_224 : decode cL_finds 224 = .ok (.goto (-32), 3) := by decide +kernel
theorem dL_finds_227 : decode cL_finds 227 = .ok (.iinc 5 1, 3) := by decide +kernel
theorem dL_finds_230 : decode cL_finds 230 = .ok (.goto (-181), 3) := by decide +kernel
theorem dL_finds_233 : decode cL_finds 233 = .ok (.iinc 4 1, 3) := by decide +kernel
theorem dL_finds_236 : decode cL_finds 236 = .ok (.goto (-197), 3) := by decide +kernel
theorem dL_finds_239 : decode cL_finds 239 = .ok (.return_, 1) := by decide +kernel
theorem dL_belongs_0 : decode cL_belongs 0 = .ok (.aload_n 0, 1) := by decide +kernel
theorem dL_belongs_1 : decode cL_belongs 1 = .ok (.iload_n 3, 1) := by decide +kernel
theorem dL_belongs_2 : decode cL_belongs 2 = .ok (.invokestatic 28, 3) := by decide +kernel
theorem dL_belongs_5 : decode cL_belongs 5 = .ok (.ifCond .eq 5, 3) := by decide +kernel
theorem dL_belongs_8 : decode cL_belongs 8 = .ok (.iconst 0, 1) := by decide +kernel
theorem dL_belongs_9 : decode cL_belongs 9 = .ok (.ireturn, 1) := by decide +kernel
theorem dL_belongs_10 : decode cL_belongs 10 = .ok (.aload_n 0, 1) := by decide +kernel
theorem dL_belongs_11 : decode cL_belongs 11 = .ok (.iload_n 3, 1) := by decide +kernel
theorem dL_belongs_12 : decode cL_belongs 12 = .ok (.iconst 1, 1) := by decide +kernel
theorem dL_belongs_13 : decode cL_belongs 13 = .ok (.invokestatic 22, 3) := by decide +kernel
theorem dL_belongs_16 : decode cL_belongs 16 = .ok (.istore 5, 2) := by decide +kernel
theorem dL_belongs_18 : decode cL_belongs 18 = .ok (.aload_n 0, 1) := by decide +kernel
theorem dL_belongs_19 : decode cL_belongs 19 = .ok (.iload_n 3, 1) := by decide +kernel
theorem dL_belongs_20 : decode cL_belongs 20 = .ok (.iconst 0, 1) := by decide +kernel
theorem dL_belongs_21 : decode cL_belongs 21 = .ok (.invokestatic 22, 3) := by decide +kernel
theorem dL_belongs_24 : decode cL_belongs 24 = .ok (.istore 6, 2) := by decide +kernel
theorem dL_belongs_26 : decode cL_belongs 26 = .ok (.aload_n 2, 1) := by decide +kernel
theorem dL_belongs_27 : decode cL_belongs 27 = .ok (.aload_n 1, 1) := by decide +kernel
theorem dL_belongs_28 : decode cL_belongs 28 = .ok (.iconst 3, 1) := by decide +kernel
theorem dL_belongs_29 : decode cL_belongs 29 = .ok (.iload 6, 2) := by decide +kernel
theorem dL_belongs_31 : decode cL_belongs 31 = .ok (.iadd, 1) := by decide +kernel
theorem dL_belongs_32 : decode cL_belongs 32 = .ok (.iaload, 1) := by decide +kernel
theorem dL_belongs_33 : decode cL_belongs 33 = .ok (.iconst 1, 1) := by decide +kernel
theorem dL_belongs_34 : decode cL_belongs 34 = .ok (.if_icmp .ne 13, 3) := by decide +kernel
theorem dL_belongs_37 : decode cL_belongs 37 = .ok (.iload 5, 2) := by decide +kernel
theorem dL_belongs_39 : decode cL_belongs 39 = .ok (.ifCond .lt 8, 3) := by decide +kernel
theorem dL_belongs_42 : decode cL_belongs 42 = .ok (.iload 5, 2) := by decide +kernel
theorem dL_belongs_44 : decode cL_belongs 44 = .ok (.goto 7, 3) := by decide +kernel
theorem dL_belongs_47 : decode cL_belongs 47 = .ok (.iconst 3, 1) := by decide +kernel
theorem dL_belongs_48 : decode cL_belongs 48 = .ok (.iload 6, 2) := by decide +kernel
theorem dL_belongs_50 : decode cL_belongs 50 = .ok (.iadd, 1) := by decide +kernel
theorem dL_belongs_51 : decode cL_belongs 51 = .ok (.iaload, 1) := by decide +kernel
theorem dL_belongs_52 : decode cL_belongs 52 = .ok (.aload_n 2, 1) := by decide +kernel
theorem dL_belongs_53 : decode cL_belongs 53 = .ok (.iload 4, 2) := by decide +kernel
theorem dL_belongs_55 : decode cL_belongs 55 = .ok (.iaload, 1) := by decide +kernel
theorem dL_belongs_56 : decode cL_belongs 56 = .ok (.if_icmp .ne 7, 3) := by decide +kernel
theorem dL_belongs_59 : decode cL_belongs 59 = .ok (.iconst 1, 1) := by decide +kernel
theorem dL_belongs_60 : decode cL_belongs 60 = .ok (.goto 4, 3) := by decide +kernel
theorem dL_belongs_63 : decode cL_belongs 63 = .ok (.iconst 0, 1) := by decide +kernel
theorem dL_belongs_64 : decode cL_belongs 64 = .ok (.ireturn, 1) := by decide +kernel
theorem dL_isAhead_0 : decode cL_isAhead 0 = .ok (.aload_n 0, 1) := by decide +kernel
theorem dL_isAhead_1 : decode cL_isAhead 1 = .ok (.aload_n 1, 1) := by decide +kernel
theorem dL_isAhead_2 : decode cL_isAhead 2 = .ok (.iload_n 2, 1) := by decide +kernel
theorem dL_isAhead_3 : decode cL_isAhead 3 = .ok (.invokestatic 32, 3) := by decide +kernel
theorem dL_isAhead_6 : decode cL_isAhead 6 = .ok (.aload_n 0, 1) := by decide +kernel
theorem dL_isAhead_7 : decode cL_isAhead 7 = .ok (.aload_n 1, 1) := by decide +kernel
theorem dL_isAhead_8 : decode cL_isAhead 8 = .ok (.iload_n 3, 1) := by decide +kernel
theorem dL_isAhead_9 : decode cL_isAhead 9 = .ok (.invokestatic 32, 3) := by decide +kernel
theorem dL_isAhead_12 : decode cL_isAhead 12 = .ok (.if_icmp .lt 23, 3) := by decide +kernel
theorem dL_isAhead_15 : decode cL_isAhead 15 = .ok (.aload_n 0, 1) := by decide +kernel
theorem dL_isAhead_16 : decode cL_isAhead 16 = .ok (.aload_n 1, 1) := by decide +kernel
theorem dL_isAhead_17 : decode cL_isAhead 17 = .ok (.iload_n 2, 1) := by decide +kernel
theorem dL_isAhead_18 : decode cL_isAhead 18 = .ok (.invokestatic 32, 3) := by decide +kernel
theorem dL_isAhead_21 : decode cL_isAhead 21 = .ok (.aload_n 0, 1) := by decide +kernel
theorem dL_isAhead_22 : decode cL_isAhead 22 = .ok (.aload_n 1, 1) := by decide +kernel
theorem dL_isAhead_23 : decode cL_isAhead 23 = .ok (.iload_n 3, 1) := by decide +kernel
theorem dL_isAhead_24 : decode cL_isAhead 24 = .ok (.invokestatic 32, 3) := by decide +kernel
theorem dL_isAhead_27 : decode cL_isAhead 27 = .ok (.if_icmp .ne 12, 3) := by decide +kernel
theorem dL_isAhead_30 : decode cL_isAhead 30 = .ok (.iload_n 2, 1) := by decide +kernel
theorem dL_isAhead_31 : decode cL_isAhead 31 = .ok (.iload_n 3, 1) := by decide +kernel
theorem dL_isAhead_32 : decode cL_isAhead 32 = .ok (.if_icmp .ge 7, 3) := by decide +kernel
theorem dL_isAhead_35 : decode cL_isAhead 35 = .ok (.iconst 1, 1) := by decide +kernel
theorem dL_isAhead_36 : decode cL_isAhead 36 = .ok (.goto 4, 3) := by decide +kernel
theorem dL_isAhead_39 : decode cL_isAhead 39 = .ok (.iconst 0, 1) := by decide +kernel
theorem dL_isAhead_40 : decode cL_isAhead 40 = .ok (.ireturn, 1) := by decide +kernel
theorem dL_counts_0 : decode cL_counts 0 = .ok (.aload_n 0, 1) := by decide +kernel
theorem dL_counts_1 : decode cL_counts 1 = .ok (.iload 4, 2) := by decide +kernel
theorem dL_counts_3 : decode cL_counts 3 = .ok (.iconst 1, 1) := by decide +kernel
theorem dL_counts_4 : decode cL_counts 4 = .ok (.invokestatic 22, 3) := by decide +kernel
theorem dL_counts_7 : decode cL_counts 7 = .ok (.ifCond .lt 13, 3) := by decide +kernel
theorem dL_counts_10 : decode cL_counts 10 = .ok (.aload_n 0, 1) := by decide +kernel
theorem dL_counts_11 : decode cL_counts 11 = .ok (.iload 4, 2) := by decide +kernel
theorem dL_counts_13 : decode cL_counts 13 = .ok (.iconst 1, 1) := by decide +kernel
theorem dL_counts_14 : decode cL_counts 14 = .ok (.invokestatic 22, 3) := by decide +kernel
theorem dL_counts_17 : decode cL_counts 17 = .ok (.goto 12, 3) := by decide +kernel
theorem dL_counts_20 : decode cL_counts 20 = .ok (.iconst 3, 1) := by decide +kernel
theorem dL_counts_21 : decode cL_counts 21 = .ok (.aload_n 0, 1) := by decide +kernel
theorem dL_counts_22 : decode cL_counts 22 = .ok (.iload 4, 2) := by decide +kernel
theorem dL_counts_24 : decode cL_counts 24 = .ok (.iconst 0, 1) := by decide +kernel
theorem dL_counts_25 : decode cL_counts 25 = .ok (.invokestatic 22, 3) := by decide +kernel
theorem dL_counts_28 : decode cL_counts 28 = .ok (.iadd, 1) := by decide +kernel
theorem dL_counts_29 : decode cL_counts 29 = .ok (.istore 5, 2) := by decide +kernel
theorem dL_counts_31 : decode cL_counts 31 = .ok (.iconst (-1), 1) := by decide +kernel
theorem dL_counts_32 : decode cL_counts 32 = .ok (.istore 6, 2) := by decide +kernel
theorem dL_counts_34 : decode cL_counts 34 = .ok (.iconst 0, 1) := by decide +kernel
theorem dL_counts_35 : decode cL_counts 35 = .ok (.istore 7, 2) := by decide +kernel
theorem dL_counts_37 : decode cL_counts 37 = .ok (.iconst 0, 1) := by decide +kernel
theorem dL_counts_38 : decode cL_counts 38 = .ok (.istore 8, 2) := by decide +kernel
theorem dL_counts_40 : decode cL_counts 40 = .ok (.iload 8, 2) := by decide +kernel
theorem dL_counts_42 : decode cL_counts 42 = .ok (.aload_n 3, 1) := by decide +kernel
theorem dL_counts_43 : decode cL_counts 43 = .ok (.iload 5, 2) := by decide +kernel
theorem dL_counts_45 : decode cL_counts 45 = .ok (.iaload, 1) := by decide +kernel
theorem dL_counts_46 : decode cL_counts 46 = .ok (.if_icmp .ge 63, 3) := by decide +kernel
theorem dL_counts_49 : decode cL_counts 49 = .ok (.aload_n 2, 1) := by decide +kernel
theorem dL_counts_50 : decode cL_counts 50 = .ok (.bipush 6, 2) := by decide +kernel
theorem dL_counts_52 : decode cL_counts 52 = .ok (.iload 5, 2) := by decide +kernel
theorem dL_counts_54 : decode cL_counts 54 = .ok (.imul, 1) := by decide +kernel
theorem dL_counts_55 : decode cL_counts 55 = .ok (.iload 8, 2) := by decide +kernel
theorem dL_counts_57 : decode cL_counts 57 = .ok (.iadd, 1) := by decide +kernel
theorem dL_counts_58 : decode cL_counts 58 = .ok (.iaload, 1) := by decide +kernel
theorem dL_counts_59 : decode cL_counts 59 = .ok (.iconst 2, 1) := by decide +kernel
theorem dL_counts_60 : decode cL_counts 60 = .ok (.idiv, 1) := by decide +kernel
theorem dL_counts_61 : decode cL_counts 61 = .ok (.istore 9, 2) := by decide +kernel
theorem dL_counts_63 : decode cL_counts 63 = .ok (.iload 9, 2) := by decide +kernel
theorem dL_counts_65 : decode cL_counts 65 = .ok (.aload_n 0, 1) := by decide +kernel
theorem dL_counts_66 : decode cL_counts 66 = .ok (.aload_n 1, 1) := by decide +kernel
theorem dL_counts_67 : decode cL_counts 67 = .ok (.iload 4, 2) := by decide +kernel
theorem dL_counts_69 : decode cL_counts 69 = .ok (.invokestatic 32, 3) := by decide +kernel
theorem dL_counts_72 : decode cL_counts 72 = .ok (.if_icmp .gt 31, 3) := by decide +kernel
theorem dL_counts_75 : decode cL_counts 75 = .ok (.iload 9, 2) := by decide +kernel
theorem dL_counts_77 : decode cL_counts 77 = .ok (.iload 6, 2) := by decide +kernel
theorem dL_counts_79 : decode cL_counts 79 = .ok (.if_icmp .ge 6, 3) := by decide +kernel
theorem dL_counts_82 : decode cL_counts 82 = .ok (.goto 21, 3) := by decide +kernel
theorem dL_counts_85 : decode cL_counts 85 = .ok (.iload 9, 2) := by decide +kernel
theorem dL_counts_87 : decode cL_counts 87 = .ok (.istore 6, 2) := by decide +kernel
theorem dL_counts_89 : decode cL_counts 89 = .ok (.aload_n 2, 1) := by decide +kernel
theorem dL_counts_90 : decode cL_counts 90 = .ok (.bipush 6, 2) := by decide +kernel
theorem dL_counts_92 : decode cL_counts 92 = .ok (.iload 5, 2) := by decide +kernel
theorem dL_counts_94 : decode cL_counts 94 = .ok (.imul, 1) := by decide +kernel
theorem dL_counts_95 : decode cL_counts 95 = .ok (.iload 8, 2) := by decide +kernel
theorem dL_counts_97 : decode cL_counts 97 = .ok (.iadd, 1) := by decide +kernel
theorem dL_counts_98 : decode cL_counts 98 = .ok (.iaload, 1) := by decide +kernel
theorem dL_counts_99 : decode cL_counts 99 = .ok (.iconst 2, 1) := by decide +kernel
theorem dL_counts_100 : decode cL_counts 100 = .ok (.irem, 1) := by decide +kernel
theorem dL_counts_101 : decode cL_counts 101 = .ok (.istore 7, 2) := by decide +kernel
theorem dL_counts_103 : decode cL_counts 103 = .ok (.iinc 8 1, 3) := by decide +kernel
theorem dL_counts_106 : decode cL_counts 106 = .ok (.goto (-66), 3) := by decide +kernel
theorem dL_counts_109 : decode cL_counts 109 = .ok (.iload 7, 2) := by decide +kernel
theorem dL_counts_111 : decode cL_counts 111 = .ok (.iconst 1, 1) := by decide +kernel
theorem dL_counts_112 : decode cL_counts 112 = .ok (.if_icmp .ne 7, 3) := by decide +kernel
theorem dL_counts_115 : decode cL_counts 115 = .ok (.iconst 1, 1) := by decide +kernel
theorem dL_counts_116 : decode cL_counts 116 = .ok (.goto 4, 3) := by decide +kernel
theorem dL_counts_119 : decode cL_counts 119 = .ok (.iconst 0, 1) := by decide +kernel
theorem dL_counts_120 : decode cL_counts 120 = .ok (.ireturn, 1) := by decide +kernel
theorem dL_same_0 : decode cL_same 0 = .ok (.iload 7, 2) := by decide +kernel
theorem dL_same_2 : decode cL_same 2 = .ok (.iconst 3, 1) := by decide +kernel
theorem dL_same_3 : decode cL_same 3 = .ok (.if_icmp .ge 8, 3) := by decide +kernel
theorem dL_same_6 : decode cL_same 6 = .ok (.iload 7, 2) := by decide +kernel
theorem dL_same_8 : decode cL_same 8 = .ok (.goto 8, 3) := by decide +kernel
theorem dL_same_11 : decode cL_same 11 = .ok (.bipush 7, 2) := by decide +kernel
theorem dL_same_13 : decode cL_same 13 = .ok (.iload 7, 2) := by decide +kernel
theorem dL_same_15 : decode cL_same 15 = .ok (.iadd, 1) := by decide +kernel
theorem dL_same_16 : decode cL_same 16 = .ok (.istore 9, 2) := by decide +kernel
theorem dL_same_18 : decode cL_same 18 = .ok (.aload_n 0, 1) := by decide +kernel
theorem dL_same_19 : decode cL_same 19 = .ok (.iload 9, 2) := by decide +kernel
theorem dL_same_21 : decode cL_same 21 = .ok (.invokevirtual 36, 3) := by decide +kernel
theorem dL_same_24 : decode cL_same 24 = .ok (.aload_n 3, 1) := by decide +kernel
theorem dL_same_25 : decode cL_same 25 = .ok (.iload 7, 2) := by decide +kernel
theorem dL_same_27 : decode cL_same 27 = .ok (.iaload, 1) := by decide +kernel
theorem dL_same_28 : decode cL_same 28 = .ok (.if_icmp .ne 16, 3) := by decide +kernel
theorem dL_same_31 : decode cL_same 31 = .ok (.aload_n 0, 1) := by decide +kernel
theorem dL_same_32 : decode cL_same 32 = .ok (.iload 9, 2) := by decide +kernel
theorem dL_same_34 : decode cL_same 34 = .ok (.invokevirtual 42, 3) := by decide +kernel
theorem dL_same_37 : decode cL_same 37 = .ok (.aload_n 3, 1) := by decide +kernel
theorem dL_same_38 : decode cL_same 38 = .ok (.iload 7, 2) := by decide +kernel
theorem dL_same_40 : decode cL_same 40 = .ok (.iaload, 1) := by decide +kernel
theorem dL_same_41 : decode cL_same 41 = .ok (.if_icmp .eq 5, 3) := by decide +kernel
theorem dL_same_44 : decode cL_same 44 = .ok (.iconst 0, 1) := by decide +kernel
theorem dL_same_45 : decode cL_same 45 = .ok (.ireturn, 1) := by decide +kernel
theorem dL_same_46 : decode cL_same 46 = .ok (.iconst 0, 1) := by decide +kernel
theorem dL_same_47 : decode cL_same 47 = .ok (.istore 10, 2) := by decide +kernel
theorem dL_same_49 : decode cL_same 49 = .ok (.iconst (-1), 1) := by decide +kernel
theorem dL_same_50 : decode cL_same 50 = .ok (.istore 11, 2) := by decide +kernel
theorem dL_same_52 : decode cL_same 52 = .ok (.iconst (-1), 1) := by decide +kernel
theorem dL_same_53 : decode cL_same 53 = .ok (.istore 12, 2) := by decide +kernel
theorem dL_same_55 : decode cL_same 55 = .ok (.iconst 0, 1) := by decide +kernel
theorem dL_same_56 : decode cL_same 56 = .ok (.istore 13, 2) := by decide +kernel
theorem dL_same_58 : decode cL_same 58 = .ok (.iconst (-1), 1) := by decide +kernel
theorem dL_same_59 : decode cL_same 59 = .ok (.istore 14, 2) := by decide +kernel
theorem dL_same_61 : decode cL_same 61 = .ok (.iconst 0, 1) := by decide +kernel
theorem dL_same_62 : decode cL_same 62 = .ok (.istore 15, 2) := by decide +kernel
theorem dL_same_64 : decode cL_same 64 = .ok (.iconst 0, 1) := by decide +kernel
theorem dL_same_65 : decode cL_same 65 = .ok (.istore 16, 2) := by decide +kernel
theorem dL_same_67 : decode cL_same 67 = .ok (.iconst (-1), 1) := by decide +kernel
theorem dL_same_68 : decode cL_same 68 = .ok (.istore 17, 2) := by decide +kernel
theorem dL_same_70 : decode cL_same 70 = .ok (.iconst 0, 1) := by decide +kernel
theorem dL_same_71 : decode cL_same 71 = .ok (.istore 18, 2) := by decide +kernel
theorem dL_same_73 : decode cL_same 73 = .ok (.iload 18, 2) := by decide +kernel
theorem dL_same_75 : decode cL_same 75 = .ok (.iload 6, 2) := by decide +kernel
theorem dL_same_77 : decode cL_same 77 = .ok (.if_icmp .ge 72, 3) := by decide +kernel
theorem dL_same_80 : decode cL_same 80 = .ok (.aload_n 1, 1) := by decide +kernel
theorem dL_same_81 : decode cL_same 81 = .ok (.aload_n 2, 1) := by decide +kernel
theorem dL_same_82 : decode cL_same 82 = .ok (.aload_n 3, 1) := by decide +kernel
theorem dL_same_83 : decode cL_same 83 = .ok (.iload 18, 2) := by decide +kernel
theorem dL_same_85 : decode cL_same 85 = .ok (.iload 7, 2) := by decide +kernel
theorem dL_same_87 : decode cL_same 87 = .ok (.invokestatic 45, 3) := by decide +kernel
theorem dL_same_90 : decode cL_same 90 = .ok (.ifCond .eq 24, 3) := by decide +kernel
theorem dL_same_93 : decode cL_same 93 = .ok (.iload 11, 2) := by decide +kernel
theorem dL_same_95 : decode cL_same 95 = .ok (.ifCond .lt 15, 3) := by decide +kernel
theorem dL_same_98 : decode cL_same 98 = .ok (.aload_n 1, 1) := by decide +kernel
theorem dL_same_99 : decode cL_same 99 = .ok (.aload_n 2, 1) := by decide +kernel
theorem dL_same_100 : decode cL_same 100 = .ok (.iload 11, 2) := by decide +kernel
theorem dL_same_102 : decode cL_same 102 = .ok (.iload 18, 2) := by decide +kernel
theorem dL_same_104 : decode cL_same 104 = .ok (.invokestatic 49, 3) := by decide +kernel
theorem dL_same_107 : decode cL_same 107 = .ok (.ifCond .eq 7, 3) := by decide +kernel
theorem dL_same_110 : decode cL_same 110 = .ok (.iconst 1, 1) := by decide +kernel
theorem dL_same_111 : decode cL_same 111 = .ok (.goto 4, 3) := by decide +kernel
theorem dL_same_114 : decode cL_same 114 = .ok (.iconst 0, 1) := by decide +kernel
theorem dL_same_115 : decode cL_same 115 = .ok (.istore 19, 2) := by decide +kernel
theorem dL_same_117 : decode cL_same 117 = .ok (.iload 19, 2) := by decide +kernel
theorem dL_same_119 : decode cL_same 119 = .ok (.ifCond .eq 24, 3) := by decide +kernel
theorem dL_same_122 : decode cL_same 122 = .ok (.iload 17, 2) := by decide +kernel
theorem dL_same_124 : decode cL_same 124 = .ok (.ifCond .lt 15, 3) := by decide +kernel
theorem dL_same_127 : decode cL_same 127 = .ok (.aload_n 1, 1) := by decide +kernel
theorem dL_same_128 : decode cL_same 128 = .ok (.aload_n 2, 1) := by decide +kernel
theorem dL_same_129 : decode cL_same 129 = .ok (.iload 18, 2) := by decide +kernel
theorem dL_same_131 : decode cL_same 131 = .ok (.iload 17, 2) := by decide +kernel
theorem dL_same_133 : decode cL_same 133 = .ok (.invokestatic 49, 3) := by decide +kernel
theorem dL_same_136 : decode cL_same 136 = .ok (.ifCond .eq 7, 3) := by decide +kernel
theorem dL_same_139 : decode cL_same 139 = .ok (.iload 18, 2) := by decide +kernel
theorem dL_same_141 : decode cL_same 141 = .ok (.istore 17, 2) := by decide +kernel
theorem dL_same_143 : decode cL_same 143 = .ok (.iinc 18 1, 3) := by decide +kernel
theorem dL_same_146 : decode cL_same 146 = .ok (.goto (-73), 3) := by decide +kernel
theorem dL_same_149 : decode cL_same 149 = .ok (.iload 17, 2) := by decide +kernel
theorem dL_same_151 : decode cL_same 151 = .ok (.ifCond .lt 80, 3) := by decide +kernel
theorem dL_same_154 : decode cL_same 154 = .ok (.iload 11, 2) := by decide +kernel
theorem dL_same_156 : decode cL_same 156 = .ok (.ifCond .lt 75, 3) := by decide +kernel
theorem dL_same_159 : decode cL_same 159 = .ok (.aload_n 1, 1) := by decide +kernel
theorem dL_same_160 : decode cL_same 160 = .ok (.aload_n 2, 1) := by decide +kernel
theorem dL_same_161 : decode cL_same 161 = .ok (.iload 17, 2) := by decide +kernel
theorem dL_same_163 : decode cL_same 163 = .ok (.invokestatic 32, 3) := by decide +kernel
theorem dL_same_166 : decode cL_same 166 = .ok (.aload_n 1, 1) := by decide +kernel
theorem dL_same_167 : decode cL_same 167 = .ok (.aload_n 2, 1) := by decide +kernel
theorem dL_same_168 : decode cL_same 168 = .ok (.iload 11, 2) := by decide +kernel
theorem dL_same_170 : decode cL_same 170 = .ok (.invokestatic 32, 3) := by decide +kernel
theorem dL_same_173 : decode cL_same 173 = .ok (.isub, 1) := by decide +kernel
theorem dL_same_174 : decode cL_same 174 = .ok (.bipush 30, 2) := by decide +kernel
theorem dL_same_176 : decode cL_same 176 = .ok (.if_icmp .gt 55, 3) := by decide +kernel
theorem dL_same_179 : decode cL_same 179 = .ok (.aload_n 1, 1) := by decide +kernel
theorem dL_same_180 : decode cL_same 180 = .ok (.aload_n 2, 1) := by decide +kernel
theorem dL_same_181 : decode cL_same 181 = .ok (.iload 17, 2) := by decide +kernel
theorem dL_same_183 : decode cL_same 183 = .ok (.invokestatic 32, 3) := by decide +kernel
theorem dL_same_186 : decode cL_same 186 = .ok (.sipush 1440, 3) := by decide +kernel
theorem dL_same_189 : decode cL_same 189 = .ok (.idiv, 1) := by decide +kernel
theorem dL_same_190 : decode cL_same 190 = .ok (.aload_n 1, 1) := by decide +kernel
theorem dL_same_191 : decode cL_same 191 = .ok (.aload_n 2, 1) := by decide +kernel
theorem dL_same_192 : decode cL_same 192 = .ok (.iload 11, 2) := by decide +kernel
theorem dL_same_194 : decode cL_same 194 = .ok (.invokestatic 32, 3) := by decide +kernel
theorem dL_same_197 : decode cL_same 197 = .ok (.sipush 1440, 3) := by decide +kernel
theorem dL_same_200 : decode cL_same 200 = .ok (.idiv, 1) := by decide +kernel
theorem dL_same_201 : decode cL_same 201 = .ok (.if_icmp .ne 30, 3) := by decide +kernel
theorem dL_same_204 : decode cL_same 204 = .ok (.iload 14, 2) := by decide +kernel
theorem dL_same_206 : decode cL_same 206 = .ok (.ifCond .lt 29, 3) := by decide +kernel
theorem dL_same_209 : decode cL_same 209 = .ok (.aload_n 1, 1) := by decide +kernel
theorem dL_same_210 : decode cL_same 210 = .ok (.iload 17, 2) := by decide +kernel
theorem dL_same_212 : decode cL_same 212 = .ok (.iconst 3, 1) := by decide +kernel
theorem dL_same_213 : decode cL_same 213 = .ok (.invokestatic 22, 3) := by decide +kernel
theorem dL_same_216 : decode cL_same 216 = .ok (.ifCond .lt 19, 3) := by decide +kernel
theorem dL_same_219 : decode cL_same 219 = .ok (.aload_n 1, 1) := by decide +kernel
theorem dL_same_220 : decode cL_same 220 = .ok (.iload 17, 2) := by decide +kernel
theorem dL_same_222 : decode cL_same 222 = .ok (.iconst 3, 1) := by decide +kernel
theorem dL_same_223 : decode cL_same 223 = .ok (.invokestatic 22, 3) := by decide +kernel
theorem dL_same_226 : decode cL_same 226 = .ok (.iload 14, 2) := by decide +kernel
theorem dL_same_228 : decode cL_same 228 = .ok (.if_icmp .eq 7, 3) := by decide +kernel
theorem dL_same_231 : decode cL_same 231 = .ok (.iconst 1, 1) := by decide +kernel
theorem dL_same_232 : decode cL_same 232 = .ok (.goto 4, 3) := by decide +kernel
theorem dL_same_235 : decode cL_same 235 = .ok (.iconst 0, 1) := by decide +kernel
theorem dL_same_236 : decode cL_same 236 = .ok (.istore 18, 2) := by decide +kernel
theorem dL_same_238 : decode cL_same 238 = .ok (.iload 18, 2) := by decide +kernel
theorem dL_same_240 : decode cL_same 240 = .ok (.ifCond .eq 74, 3) := by decide +kernel
theorem dL_same_243 : decode cL_same 243 = .ok (.iload 11, 2) := by decide +kernel
theorem dL_same_245 : decode cL_same 245 = .ok (.ifCond .lt 69, 3) := by decide +kernel
theorem dL_same_248 : decode cL_same 248 = .ok (.aload_n 0, 1) := by decide +kernel
theorem dL_same_249 : decode cL_same 249 = .ok (.iload 9, 2) := by decide +kernel
theorem dL_same_251 : decode cL_same 251 = .ok (.iload 12, 2) := by decide +kernel
theorem dL_same_253 : decode cL_same 253 = .ok (.iconst 0, 1) := by decide +kernel
theorem dL_same_254 : decode cL_same 254 = .ok (.invokevirtual 53, 3) := by decide +kernel
theorem dL_same_257 : decode cL_same 257 = .ok (.iload 13, 2) := by decide +kernel
theorem dL_same_259 : decode cL_same 259 = .ok (.if_icmp .ne 53, 3) := by decide +kernel
theorem dL_same_262 : decode cL_same 262 = .ok (.aload_n 0, 1) := by decide +kernel
theorem dL_same_263 : decode cL_same 263 = .ok (.iload 9, 2) := by decide +kernel
theorem dL_same_265 : decode cL_same 265 = .ok (.iload 12, 2) := by decide +kernel
theorem dL_same_267 : decode cL_same 267 = .ok (.iconst 1, 1) := by decide +kernel
theorem dL_same_268 : decode cL_same 268 = .ok (.invokevirtual 53, 3) := by decide +kernel
theorem dL_same_271 : decode cL_same 271 = .ok (.aload_n 1, 1) := by decide +kernel
theorem dL_same_272 : decode cL_same 272 = .ok (.aload_n 2, 1) := by decide +kernel
theorem dL_same_273 : decode cL_same 273 = .ok (.iload 11, 2) := by decide +kernel
theorem dL_same_275 : decode cL_same 275 = .ok (.invokestatic 32, 3) := by decide +kernel
theorem dL_same_278 : decode cL_same 278 = .ok (.iload 13, 2) := by decide +kernel
theorem dL_same_280 : decode cL_same 280 = .ok (.isub, 1) := by decide +kernel
theorem dL_same_281 : decode cL_same 281 = .ok (.if_icmp .ne 31, 3) := by decide +kernel
theorem dL_same_284 : decode cL_same 284 = .ok (.aload_n 0, 1) := by decide +kernel
theorem dL_same_285 : decode cL_same 285 = .ok (.iload 9, 2) := by decide +kernel
theorem dL_same_287 : decode cL_same 287 = .ok (.iload 12, 2) := by decide +kernel
theorem dL_same_289 : decode cL_same 289 = .ok (.iconst 2, 1) := by decide +kernel
theorem dL_same_290 : decode cL_same 290 = .ok (.invokevirtual 53, 3) := by decide +kernel
theorem dL_same_293 : decode cL_same 293 = .ok (.iload 15, 2) := by decide +kernel
theorem dL_same_295 : decode cL_same 295 = .ok (.if_icmp .ne 17, 3) := by decide +kernel
theorem dL_same_298 : decode cL_same 298 = .ok (.aload_n 0, 1) := by decide +kernel
theorem dL_same_299 : decode cL_same 299 = .ok (.iload 9, 2) := by decide +kernel
theorem dL_same_301 : decode cL_same 301 = .ok (.iload 12, 2) := by decide +kernel
theorem dL_same_303 : decode cL_same 303 = .ok (.iconst 3, 1) := by decide +kernel
theorem dL_same_304 : decode cL_same 304 = .ok (.invokevirtual 53, 3) := by decide +kernel
theorem dL_same_307 : decode cL_same 307 = .ok (.iload 14, 2) := by decide +kernel
theorem dL_same_309 : decode cL_same 309 = .ok (.if_icmp .eq 5, 3) := by decide +kernel
theorem dL_same_312 : decode cL_same 312 = .ok (.iconst 0, 1) := by decide +kernel
theorem dL_same_313 : decode cL_same 313 = .ok (.ireturn, 1) := by decide +kernel
theorem dL_same_314 : decode cL_same 314 = .ok (.iload 17, 2) := by decide +kernel
theorem dL_same_316 : decode cL_same 316 = .ok (.ifCond .ge 6, 3) := by decide +kernel
theorem dL_same_319 : decode cL_same 319 = .ok (.goto 168, 3) := by decide +kernel
theorem dL_same_322 : decode cL_same 322 = .ok (.iload 18, 2) := by decide +kernel
theorem dL_same_324 : decode cL_same 324 = .ok (.ifCond .eq 21, 3) := by decide +kernel
theorem dL_same_327 : decode cL_same 327 = .ok (.iinc 12 1, 3) := by decide +kernel
theorem dL_same_330 : decode cL_same 330 = .ok (.aload_n 1, 1) := by decide +kernel
theorem dL_same_331 : decode cL_same 331 = .ok (.aload_n 2, 1) := by decide +kernel
theorem dL_same_332 : decode cL_same 332 = .ok (.iload 17, 2) := by decide +kernel
theorem dL_same_334 : decode cL_same 334 = .ok (.invokestatic 32, 3) := by decide +kernel
theorem dL_same_337 : decode cL_same 337 = .ok (.istore 13, 2) := by decide +kernel
theorem dL_same_339 : decode cL_same 339 = .ok (.iconst (-1), 1) := by decide +kernel
theorem dL_same_340 : decode cL_same 340 = .ok (.istore 14, 2) := by decide +kernel
theorem dL_same_342 : decode cL_same 342 = .ok (.iconst 0, 1) := by decide +kernel
theorem dL_same_343 : decode cL_same 343 = .ok (.istore 15, 2) := by decide +kernel
theorem dL_same_345 : decode cL_same 345 = .ok (.iload 14, 2) := by decide +kernel
theorem dL_same_347 : decode cL_same 347 = .ok (.ifCond .ge 13, 3) := by decide +kernel
theorem dL_same_350 : decode cL_same 350 = .ok (.aload_n 1, 1) := by decide +kernel
theorem dL_same_351 : decode cL_same 351 = .ok (.iload 17, 2) := by decide +kernel
theorem dL_same_353 : decode cL_same 353 = .ok (.iconst 3, 1) := by decide +kernel
theorem dL_same_354 : decode cL_same 354 = .ok (.invokestatic 22, 3) := by decide +kernel
theorem dL_same_357 : decode cL_same 357 = .ok (.goto 5, 3) := by decide +kernel
theorem dL_same_360 : decode cL_same 360 = .ok (.iload 14, 2) := by decide +kernel
theorem dL_same_362 : decode cL_same 362 = .ok (.istore 14, 2) := by decide +kernel
theorem dL_same_364 : decode cL_same 364 = .ok (.iinc 15 1, 3) := by decide +kernel
theorem dL_same_367 : decode cL_same 367 = .ok (.aload_n 0, 1) := by decide +kernel
theorem dL_same_368 : decode cL_same 368 = .ok (.iload 9, 2) := by decide +kernel
theorem dL_same_370 : decode cL_same 370 = .ok (.iload 10, 2) := by decide +kernel
theorem dL_same_372 : decode cL_same 372 = .ok (.invokevirtual 57, 3) := by decide +kernel
theorem dL_same_375 : decode cL_same 375 = .ok (.iload 17, 2) := by decide +kernel
theorem dL_same_377 : decode cL_same 377 = .ok (.iconst 1, 1) := by decide +kernel
theorem dL_same_378 : decode cL_same 378 = .ok (.iadd, 1) := by decide +kernel
theorem dL_same_379 : decode cL_same 379 = .ok (.if_icmp .ne 21, 3) := by decide +kernel
theorem dL_same_382 : decode cL_same 382 = .ok (.aload_n 0, 1) := by decide +kernel
theorem dL_same_383 : decode cL_same 383 = .ok (.iload 17, 2) := by decide +kernel
theorem dL_same_385 : decode cL_same 385 = .ok (.iconst 1, 1) := by decide +kernel
theorem dL_same_386 : decode cL_same 386 = .ok (.iadd, 1) := by decide +kernel
theorem dL_same_387 : decode cL_same 387 = .ok (.invokevirtual 61, 3) := by decide +kernel
theorem dL_same_390 : decode cL_same 390 = .ok (.aload_n 1, 1) := by decide +kernel
theorem dL_same_391 : decode cL_same 391 = .ok (.aload_n 2, 1) := by decide +kernel
theorem dL_same_392 : decode cL_same 392 = .ok (.iload 17, 2) := by decide +kernel
theorem dL_same_394 : decode cL_same 394 = .ok (.invokestatic 32, 3) := by decide +kernel
theorem dL_same_397 : decode cL_same 397 = .ok (.if_icmp .eq 5, 3) := by decide +kernel
theorem dL_same_400 : decode cL_same 400 = .ok (.iconst 0, 1) := by decide +kernel
theorem dL_same_401 : decode cL_same 401 = .ok (.ireturn, 1) := by decide +kernel
theorem dL_same_402 : decode cL_same 402 = .ok (.aload_n 1, 1) := by decide +kernel
theorem dL_same_403 : decode cL_same 403 = .ok (.iload 17, 2) := by decide +kernel
theorem dL_same_405 : decode cL_same 405 = .ok (.iconst 2, 1) := by decide +kernel
theorem dL_same_406 : decode cL_same 406 = .ok (.invokestatic 22, 3) := by decide +kernel
theorem dL_same_409 : decode cL_same 409 = .ok (.iconst 1, 1) := by decide +kernel
theorem dL_same_410 : decode cL_same 410 = .ok (.if_icmp .ne 49, 3) := by decide +kernel
theorem dL_same_413 : decode cL_same 413 = .ok (.aload_n 1, 1) := by decide +kernel
theorem dL_same_414 : decode cL_same 414 = .ok (.aload_n 2, 1) := by decide +kernel
theorem dL_same_415 : decode cL_same 415 = .ok (.iload 17, 2) := by decide +kernel
theorem dL_same_417 : decode cL_same 417 = .ok (.invokestatic 32, 3) := by decide +kernel
theorem dL_same_420 : decode cL_same 420 = .ok (.iload 8, 2) := by decide +kernel
theorem dL_same_422 : decode cL_same 422 = .ok (.if_icmp .gt 37, 3) := by decide +kernel
theorem dL_same_425 : decode cL_same 425 = .ok (.aload_n 1, 1) := by decide +kernel
theorem dL_same_426 : decode cL_same 426 = .ok (.aload_n 2, 1) := by decide +kernel
theorem dL_same_427 : decode cL_same 427 = .ok (.iload 17, 2) := by decide +kernel
theorem dL_same_429 : decode cL_same 429 = .ok (.invokestatic 32, 3) := by decide +kernel
theorem dL_same_432 : decode cL_same 432 = .ok (.iload 8, 2) := by decide +kernel
theorem dL_same_434 : decode cL_same 434 = .ok (.sipush 2880, 3) := by decide +kernel
theorem dL_same_437 : decode cL_same 437 = .ok (.isub, 1) := by decide +kernel
theorem dL_same_438 : decode cL_same 438 = .ok (.if_icmp .le 21, 3) := by decide +kernel
theorem dL_same_441 : decode cL_same 441 = .ok (.aload_n 1, 1) := by decide +kernel
theorem dL_same_442 : decode cL_same 442 = .ok (.aload_n 2, 1) := by decide +kernel
theorem dL_same_443 : decode cL_same 443 = .ok (.aload 4, 2) := by decide +kernel
theorem dL_same_445 : decode cL_same 445 = .ok (.aload 5, 2) := by decide +kernel
theorem dL_same_447 : decode cL_same 447 = .ok (.iload 17, 2) := by decide +kernel
theorem dL_same_449 : decode cL_same 449 = .ok (.invokestatic 63, 3) := by decide +kernel
theorem dL_same_452 : decode cL_same 452 = .ok (.ifCond .eq 7, 3) := by decide +kernel
theorem dL_same_455 : decode cL_same 455 = .ok (.iconst 1, 1) := by decide +kernel
theorem dL_same_456 : decode cL_same 456 = .ok (.goto 4, 3) := by decide +kernel
theorem dL_same_459 : decode cL_same 459 = .ok (.iconst 0, 1) := by decide +kernel
theorem dL_same_460 : decode cL_same 460 = .ok (.istore 19, 2) := by decide +kernel
theorem dL_same_462 : decode cL_same 462 = .ok (.iload 16, 2) := by decide +kernel
theorem dL_same_464 : decode cL_same 464 = .ok (.iload 19, 2) := by decide +kernel
theorem dL_same_466 : decode cL_same 466 = .ok (.ifCond .eq 7, 3) := by decide +kernel
theorem dL_same_469 : decode cL_same 469 = .ok (.iconst 1, 1) := by decide +kernel
theorem dL_same_470 : decode cL_same 470 = .ok (.goto 4, 3) := by decide +kernel
theorem dL_same_473 : decode cL_same 473 = .ok (.iconst 0, 1) := by decide +kernel
theorem dL_same_474 : decode cL_same 474 = .ok (.iadd, 1) := by decide +kernel
theorem dL_same_475 : decode cL_same 475 = .ok (.istore 16, 2) := by decide +kernel
theorem dL_same_477 : decode cL_same 477 = .ok (.iinc 10 1, 3) := by decide +kernel
theorem dL_same_480 : decode cL_same 480 = .ok (.iload 17, 2) := by decide +kernel
theorem dL_same_482 : decode cL_same 482 = .ok (.istore 11, 2) := by decide +kernel
theorem dL_same_484 : decode cL_same 484 = .ok (.goto (-417), 3) := by decide +kernel
theorem dL_same_487 : decode cL_same 487 = .ok (.aload_n 0, 1) := by decide +kernel
theorem dL_same_488 : decode cL_same 488 = .ok (.iload 9, 2) := by decide +kernel
theorem dL_same_490 : decode cL_same 490 = .ok (.iconst (-1), 1) := by decide +kernel
theorem dL_same_491 : decode cL_same 491 = .ok (.invokevirtual 67, 3) := by decide +kernel
theorem dL_same_494 : decode cL_same 494 = .ok (.iload 10, 2) := by decide +kernel
theorem dL_same_496 : decode cL_same 496 = .ok (.if_icmp .ne 32, 3) := by decide +kernel
theorem dL_same_499 : decode cL_same 499 = .ok (.aload_n 0, 1) := by decide +kernel
theorem dL_same_500 : decode cL_same 500 = .ok (.iload 9, 2) := by decide +kernel
theorem dL_same_502 : decode cL_same 502 = .ok (.invokevirtual 70, 3) := by decide +kernel
theorem dL_same_505 : decode cL_same 505 = .ok (.iload 12, 2) := by decide +kernel
theorem dL_same_507 : decode cL_same 507 = .ok (.iconst 1, 1) := by decide +kernel
theorem dL_same_508 : decode cL_same 508 = .ok (.iadd, 1) := by decide +kernel
theorem dL_same_509 : decode cL_same 509 = .ok (.if_icmp .ne 19, 3) := by decide +kernel
theorem dL_same_512 : decode cL_same 512 = .ok (.aload_n 0, 1) := by decide +kernel
theorem dL_same_513 : decode cL_same 513 = .ok (.iload 9, 2) := by decide +kernel
theorem dL_same_515 : decode cL_same 515 = .ok (.iconst 0, 1) := by decide +kernel
theorem dL_same_516 : decode cL_same 516 = .ok (.iconst 1, 1) := by decide +kernel
theorem dL_same_517 : decode cL_same 517 = .ok (.iload 8, 2) := by decide +kernel
theorem dL_same_519 : decode cL_same 519 = .ok (.iconst 2, 1) := by decide +kernel
theorem dL_same_520 : decode cL_same 520 = .ok (.invokevirtual 73, 3) := by decide +kernel
theorem dL_same_523 : decode cL_same 523 = .ok (.iload 16, 2) := by decide +kernel
theorem dL_same_525 : decode cL_same 525 = .ok (.if_icmp .eq 5, 3) := by decide +kernel
theorem dL_same_528 : decode cL_same 528 = .ok (.iconst 0, 1) := by decide +kernel
theorem dL_same_529 : decode cL_same 529 = .ok (.ireturn, 1) := by decide +kernel
theorem dL_same_530 : decode cL_same 530 = .ok (.aload_n 0, 1) := by decide +kernel
theorem dL_same_531 : decode cL_same 531 = .ok (.iload 9, 2) := by decide +kernel
theorem dL_same_533 : decode cL_same 533 = .ok (.invokevirtual 77, 3) := by decide +kernel
theorem dL_same_536 : decode cL_same 536 = .ok (.iload 16, 2) := by decide +kernel
theorem dL_same_538 : decode cL_same 538 = .ok (.iconst 2, 1) := by decide +kernel
theorem dL_same_539 : decode cL_same 539 = .ok (.if_icmp .lt 7, 3) := by decide +kernel
theorem dL_same_542 : decode cL_same 542 = .ok (.iconst 1, 1) := by decide +kernel
theorem dL_same_543 : decode cL_same 543 = .ok (.goto 4, 3) := by decide +kernel
theorem dL_same_546 : decode cL_same 546 = .ok (.iconst 0, 1) := by decide +kernel
theorem dL_same_547 : decode cL_same 547 = .ok (.if_icmp .ne 7, 3) := by decide +kernel
theorem dL_same_550 : decode cL_same 550 = .ok (.iconst 1, 1) := by decide +kernel
theorem dL_same_551 : decode cL_same 551 = .ok (.goto 4, 3) := by decide +kernel
theorem dL_same_554 : decode cL_same 554 = .ok (.iconst 0, 1) := by decide +kernel
theorem dL_same_555 : decode cL_same 555 = .ok (.ireturn, 1) := by decide +kernel
theorem dL_law_0 : decode cL_law 0 = .ok (.new 37, 3) := by decide +kernel
theorem dL_law_3 : decode cL_law 3 = .ok (.dup, 1) := by decide +kernel
theorem dL_law_4 : decode cL_law 4 = .ok (.invokespecial 80, 3) := by decide +kernel
theorem dL_law_7 : decode cL_law 7 = .ok (.astore_n 1, 1) := by decide +kernel
theorem dL_law_8 : decode cL_law 8 = .ok (.bipush 50, 2) := by decide +kernel
theorem dL_law_10 : decode cL_law 10 = .ok (.newarray .long, 2) := by decide +kernel
theorem dL_law_12 : decode cL_law 12 = .ok (.astore_n 2, 1) := by decide +kernel
theorem dL_law_13 : decode cL_law 13 = .ok (.bipush 15, 2) := by decide +kernel
theorem dL_law_15 : decode cL_law 15 = .ok (.newarray .int, 2) := by decide +kernel
theorem dL_law_17 : decode cL_law 17 = .ok (.astore_n 3, 1) := by decide +kernel
theorem dL_law_18 : decode cL_law 18 = .ok (.bipush 6, 2) := by decide +kernel
theorem dL_law_20 : decode cL_law 20 = .ok (.newarray .int, 2) := by decide +kernel
theorem dL_law_22 : decode cL_law 22 = .ok (.astore 4, 2) := by decide +kernel
theorem dL_law_24 : decode cL_law 24 = .ok (.bipush 36, 2) := by decide +kernel
theorem dL_law_26 : decode cL_law 26 = .ok (.newarray .int, 2) := by decide +kernel
theorem dL_law_28 : decode cL_law 28 = .ok (.astore 5, 2) := by decide +kernel
theorem dL_law_30 : decode cL_law 30 = .ok (.bipush 6, 2) := by decide +kernel
theorem dL_law_32 : decode cL_law 32 = .ok (.newarray .int, 2) := by decide +kernel
theorem dL_law_34 : decode cL_law 34 = .ok (.astore 6, 2) := by decide +kernel
theorem dL_law_36 : decode cL_law 36 = .ok (.iconst 0, 1) := by decide +kernel
theorem dL_law_37 : decode cL_law 37 = .ok (.istore 7, 2) := by decide +kernel
theorem dL_law_39 : decode cL_law 39 = .ok (.sipush 1440, 3) := by decide +kernel
theorem dL_law_42 : decode cL_law 42 = .ok (.istore 8, 2) := by decide +kernel
theorem dL_law_44 : decode cL_law 44 = .ok (.aload_n 1, 1) := by decide +kernel
theorem dL_law_45 : decode cL_law 45 = .ok (.iconst 0, 1) := by decide +kernel
theorem dL_law_46 : decode cL_law 46 = .ok (.iconst 1, 1) := by decide +kernel
theorem dL_law_47 : decode cL_law 47 = .ok (.iconst 2, 1) := by decide +kernel
theorem dL_law_48 : decode cL_law 48 = .ok (.iconst 2, 1) := by decide +kernel
theorem dL_law_49 : decode cL_law 49 = .ok (.invokevirtual 81, 3) := by decide +kernel
theorem dL_law_52 : decode cL_law 52 = .ok (.ifCond .eq 5, 3) := by decide +kernel
theorem dL_law_55 : decode cL_law 55 = .ok (.iconst 0, 1) := by decide +kernel
theorem dL_law_56 : decode cL_law 56 = .ok (.ireturn, 1) := by decide +kernel
theorem dL_law_57 : decode cL_law 57 = .ok (.iconst 0, 1) := by decide +kernel
theorem dL_law_58 : decode cL_law 58 = .ok (.istore 9, 2) := by decide +kernel
theorem dL_law_60 : decode cL_law 60 = .ok (.iload 9, 2) := by decide +kernel
theorem dL_law_62 : decode cL_law 62 = .ok (.bipush 56, 2) := by decide +kernel
theorem dL_law_64 : decode cL_law 64 = .ok (.if_icmp .ge 791, 3) := by decide +kernel
theorem dL_law_67 : decode cL_law 67 = .ok (.aload_n 0, 1) := by decide +kernel
theorem dL_law_68 : decode cL_law 68 = .ok (.iconst 2, 1) := by decide +kernel
theorem dL_law_69 : decode cL_law 69 = .ok (.iload 9, 2) := by decide +kernel
theorem dL_law_71 : decode cL_law 71 = .ok (.imul, 1) := by decide +kernel
theorem dL_law_72 : decode cL_law 72 = .ok (.invokestatic 85, 3) := by decide +kernel
theorem dL_law_75 : decode cL_law 75 = .ok (.istore 10, 2) := by decide +kernel
theorem dL_law_77 : decode cL_law 77 = .ok (.aload_n 0, 1) := by decide +kernel
theorem dL_law_78 : decode cL_law 78 = .ok (.iconst 2, 1) := by decide +kernel
theorem dL_law_79 : decode cL_law 79 = .ok (.iload 9, 2) := by decide +kernel
theorem dL_law_81 : decode cL_law 81 = .ok (.imul, 1) := by decide +kernel
theorem dL_law_82 : decode cL_law 82 = .ok (.iconst 1, 1) := by decide +kernel
theorem dL_law_83 : decode cL_law 83 = .ok (.iadd, 1) := by decide +kernel
theorem dL_law_84 : decode cL_law 84 = .ok (.invokestatic 85, 3) := by decide +kernel
theorem dL_law_87 : decode cL_law 87 = .ok (.istore 11, 2) := by decide +kernel
theorem dL_law_89 : decode cL_law 89 = .ok (.iload 10, 2) := by decide +kernel
theorem dL_law_91 : decode cL_law 91 = .ok (.bipush 12, 2) := by decide +kernel
theorem dL_law_93 : decode cL_law 93 = .ok (.invokestatic 89, 3) := by decide +kernel
theorem dL_law_96 : decode cL_law 96 = .ok (.istore 12, 2) := by decide +kernel
theorem dL_law_98 : decode cL_law 98 = .ok (.iload 10, 2) := by decide +kernel
theorem dL_law_100 : decode cL_law 100 = .ok (.iconst 5, 1) := by decide +kernel
theorem dL_law_101 : decode cL_law 101 = .ok (.ishr, 1) := by decide +kernel
theorem dL_law_102 : decode cL_law 102 = .ok (.iconst 3, 1) := by decide +kernel
theorem dL_law_103 : decode cL_law 103 = .ok (.invokestatic 89, 3) := by decide +kernel
theorem dL_law_106 : decode cL_law 106 = .ok (.istore 13, 2) := by decide +kernel
theorem dL_law_108 : decode cL_law 108 = .ok (.iload 10, 2) := by decide +kernel
theorem dL_law_110 : decode cL_law 110 = .ok (.bipush 7, 2) := by decide +kernel
theorem dL_law_112 : decode cL_law 112 = .ok (.ishr, 1) := by decide +kernel
theorem dL_law_113 : decode cL_law 113 = .ok (.iconst 4, 1) := by decide +kernel
theorem dL_law_114 : decode cL_law 114 = .ok (.invokestatic 89, 3) := by decide +kernel
theorem dL_law_117 : decode cL_law 117 = .ok (.iconst 1, 1) := by decide +kernel
theorem dL_law_118 : decode cL_law 118 = .ok (.isub, 1) := by decide +kernel
theorem dL_law_119 : decode cL_law 119 = .ok (.istore 14, 2) := by decide +kernel
theorem dL_law_121 : decode cL_law 121 = .ok (.iload 11, 2) := by decide +kernel
theorem dL_law_123 : decode cL_law 123 = .ok (.bipush 6, 2) := by decide +kernel
theorem dL_law_125 : decode cL_law 125 = .ok (.invokestatic 89, 3) := by decide +kernel
theorem dL_law_128 : decode cL_law 128 = .ok (.istore 15, 2) := by decide +kernel
theorem dL_law_130 : decode cL_law 130 = .ok (.aload_n 2, 1) := by decide +kernel
theorem dL_law_131 : decode cL_law 131 = .ok (.aload_n 3, 1) := by decide +kernel
theorem dL_law_132 : decode cL_law 132 = .ok (.aload 4, 2) := by decide +kernel
theorem dL_law_134 : decode cL_law 134 = .ok (.iload 7, 2) := by decide +kernel
theorem dL_law_136 : decode cL_law 136 = .ok (.invokestatic 92, 3) := by decide +kernel
theorem dL_law_139 : decode cL_law 139 = .ok (.iload 12, 2) := by decide +kernel
theorem dL_law_141 : decode cL_law 141 = .ok (.bipush 6, 2) := by decide +kernel
theorem dL_law_143 : decode cL_law 143 = .ok (.if_icmp .ge 131, 3) := by decide +kernel
theorem dL_law_146 : decode cL_law 146 = .ok (.iload 7, 2) := by decide +kernel
theorem dL_law_148 : decode cL_law 148 = .ok (.bipush 50, 2) := by decide +kernel
theorem dL_law_150 : decode cL_law 150 = .ok (.if_icmp .ge 124, 3) := by decide +kernel
theorem dL_law_153 : decode cL_law 153 = .ok (.iload 11, 2) := by decide +kernel
theorem dL_law_155 : decode cL_law 155 = .ok (.iconst 3, 1) := by decide +kernel
theorem dL_law_156 : decode cL_law 156 = .ok (.invokestatic 89, 3) := by decide +kernel
theorem dL_law_159 : decode cL_law 159 = .ok (.istore 16, 2) := by decide +kernel
theorem dL_law_161 : decode cL_law 161 = .ok (.iload 11, 2) := by decide +kernel
theorem dL_law_163 : decode cL_law 163 = .ok (.iconst 2, 1) := by decide +kernel
theorem dL_law_164 : decode cL_law 164 = .ok (.ishr, 1) := by decide +kernel
theorem dL_law_165 : decode cL_law 165 = .ok (.iconst 3, 1) := by decide +kernel
theorem dL_law_166 : decode cL_law 166 = .ok (.invokestatic 89, 3) := by decide +kernel
theorem dL_law_169 : decode cL_law 169 = .ok (.iconst 1, 1) := by decide +kernel
theorem dL_law_170 : decode cL_law 170 = .ok (.isub, 1) := by decide +kernel
theorem dL_law_171 : decode cL_law 171 = .ok (.istore 17, 2) := by decide +kernel
theorem dL_law_173 : decode cL_law 173 = .ok (.iload 8, 2) := by decide +kernel
theorem dL_law_175 : decode cL_law 175 = .ok (.sipush 200, 3) := by decide +kernel
theorem dL_law_178 : decode cL_law 178 = .ok (.isub, 1) := by decide +kernel
theorem dL_law_179 : decode cL_law 179 = .ok (.iload 11, 2) := by decide +kernel
theorem dL_law_181 : decode cL_law 181 = .ok (.iconst 5, 1) := by decide +kernel
theorem dL_law_182 : decode cL_law 182 = .ok (.ishr, 1) := by decide +kernel
theorem dL_law_183 : decode cL_law 183 = .ok (.sipush 260, 3) := by decide +kernel
theorem dL_law_186 : decode cL_law 186 = .ok (.invokestatic 89, 3) := by decide +kernel
theorem dL_law_189 : decode cL_law 189 = .ok (.iadd, 1) := by decide +kernel
theorem dL_law_190 : decode cL_law 190 = .ok (.istore 18, 2) := by decide +kernel
theorem dL_law_192 : decode cL_law 192 = .ok (.aload_n 2, 1) := by decide +kernel
theorem dL_law_193 : decode cL_law 193 = .ok (.iload 7, 2) := by decide +kernel
theorem dL_law_195 : decode cL_law 195 = .ok (.iload 13, 2) := by decide +kernel
theorem dL_law_197 : decode cL_law 197 = .ok (.iconst 4, 1) := by decide +kernel
theorem dL_law_198 : decode cL_law 198 = .ok (.iload 14, 2) := by decide +kernel
theorem dL_law_200 : decode cL_law 200 = .ok (.iconst 1, 1) := by decide +kernel
theorem dL_law_201 : decode cL_law 201 = .ok (.iadd, 1) := by decide +kernel
theorem dL_law_202 : decode cL_law 202 = .ok (.imul, 1) := by decide +kernel
theorem dL_law_203 : decode cL_law 203 = .ok (.iadd, 1) := by decide +kernel
theorem dL_law_204 : decode cL_law 204 = .ok (.bipush 16, 2) := by decide +kernel
theorem dL_law_206 : decode cL_law 206 = .ok (.iload 16, 2) := by decide +kernel
theorem dL_law_208 : decode cL_law 208 = .ok (.imul, 1) := by decide +kernel
theorem dL_law_209 : decode cL_law 209 = .ok (.iadd, 1) := by decide +kernel
theorem dL_law_210 : decode cL_law 210 = .ok (.sipush 128, 3) := by decide +kernel
theorem dL_law_213 : decode cL_law 213 = .ok (.iload 17, 2) := by decide +kernel
theorem dL_law_215 : decode cL_law 215 = .ok (.iconst 1, 1) := by decide +kernel
theorem dL_law_216 : decode cL_law 216 = .ok (.iadd, 1) := by decide +kernel
theorem dL_law_217 : decode cL_law 217 = .ok (.imul, 1) := by decide +kernel
theorem dL_law_218 : decode cL_law 218 = .ok (.iadd, 1) := by decide +kernel
theorem dL_law_219 : decode cL_law 219 = .ok (.i2l, 1) := by decide +kernel
theorem dL_law_220 : decode cL_law 220 = .ok (.ldc2_w 18, 3) := by decide +kernel
theorem dL_law_223 : decode cL_law 223 = .ok (.iload 18, 2) := by decide +kernel
theorem dL_law_225 : decode cL_law 225 = .ok (.i2l, 1) := by decide +kernel
theorem dL_law_226 : decode cL_law 226 = .ok (.lmul, 1) := by decide +kernel
theorem dL_law_227 : decode cL_law 227 = .ok (.ladd, 1) := by decide +kernel
theorem dL_law_228 : decode cL_law 228 = .ok (.lastore, 1) := by decide +kernel
theorem dL_law_229 : decode cL_law 229 = .ok (.aload_n 1, 1) := by decide +kernel
theorem dL_law_230 : decode cL_law 230 = .ok (.iload 7, 2) := by decide +kernel
theorem dL_law_232 : decode cL_law 232 = .ok (.iconst 1, 1) := by decide +kernel
theorem dL_law_233 : decode cL_law 233 = .ok (.iadd, 1) := by decide +kernel
theorem dL_law_234 : decode cL_law 234 = .ok (.iload 13, 2) := by decide +kernel
theorem dL_law_236 : decode cL_law 236 = .ok (.iload 14, 2) := by decide +kernel
theorem dL_law_238 : decode cL_law 238 = .ok (.iload 16, 2) := by decide +kernel
theorem dL_law_240 : decode cL_law 240 = .ok (.iload 17, 2) := by decide +kernel
theorem dL_law_242 : decode cL_law 242 = .ok (.iload 18, 2) := by decide +kernel
theorem dL_law_244 : decode cL_law 244 = .ok (.invokevirtual 96, 3) := by decide +kernel
theorem dL_law_247 : decode cL_law 247 = .ok (.ifCond .eq 19, 3) := by decide +kernel
theorem dL_law_250 : decode cL_law 250 = .ok (.aload_n 1, 1) := by decide +kernel
theorem dL_law_251 : decode cL_law 251 = .ok (.iload 7, 2) := by decide +kernel
theorem dL_law_253 : decode cL_law 253 = .ok (.iconst 1, 1) := by decide +kernel
theorem dL_law_254 : decode cL_law 254 = .ok (.iadd, 1) := by decide +kernel
theorem dL_law_255 : decode cL_law 255 = .ok (.iconst 0, 1) := by decide +kernel
theorem dL_law_256 : decode cL_law 256 = .ok (.iconst 0, 1) := by decide +kernel
theorem dL_law_257 : decode cL_law 257 = .ok (.iconst 0, 1) := by decide +kernel
theorem dL_law_258 : decode cL_law 258 = .ok (.iconst 0, 1) := by decide +kernel
theorem dL_law_259 : decode cL_law 259 = .ok (.iconst 0, 1) := by decide +kernel
theorem dL_law_260 : decode cL_law 260 = .ok (.invokevirtual 96, 3) := by decide +kernel
theorem dL_law_263 : decode cL_law 263 = .ok (.ifCond .eq 5, 3) := by decide +kernel
theorem dL_law_266 : decode cL_law 266 = .ok (.iconst 0, 1) := by decide +kernel
theorem dL_law_267 : decode cL_law 267 = .ok (.ireturn, 1) := by decide +kernel
theorem dL_law_268 : decode cL_law 268 = .ok (.iinc 7 1, 3) := by decide +kernel
theorem dL_law_271 : decode cL_law 271 = .ok (.goto 539, 3) := by decide +kernel
theorem dL_law_274 : decode cL_law 274 = .ok (.iload 12, 2) := by decide +kernel
theorem dL_law_276 : decode cL_law 276 = .ok (.bipush 6, 2) := by decide +kernel
theorem dL_law_278 : decode cL_law 278 = .ok (.if_icmp .ne 47, 3) := by decide +kernel
theorem dL_law_281 : decode cL_law 281 = .ok (.iload 11, 2) := by decide +kernel
theorem dL_law_283 : decode cL_law 283 = .ok (.sipush 400, 3) := by decide +kernel
theorem dL_law_286 : decode cL_law 286 = .ok (.invokestatic 89, 3) := by decide +kernel
theorem dL_law_289 : decode cL_law 289 = .ok (.sipush 200, 3) := by decide +kernel
theorem dL_law_292 : decode cL_law 292 = .ok (.isub, 1) := by decide +kernel
theorem dL_law_293 : decode cL_law 293 = .ok (.istore 16, 2) := by decide +kernel
theorem dL_law_295 : decode cL_law 295 = .ok (.aload_n 3, 1) := by decide +kernel
theorem dL_law_296 : decode cL_law 296 = .ok (.iload 13, 2) := by decide +kernel
theorem dL_law_298 : decode cL_law 298 = .ok (.iaload, 1) := by decide +kernel
theorem dL_law_299 : decode cL_law 299 = .ok (.istore 17, 2) := by decide +kernel
theorem dL_law_301 : decode cL_law 301 = .ok (.aload_n 3, 1) := by decide +kernel
theorem dL_law_302 : decode cL_law 302 = .ok (.iload 13, 2) := by decide +kernel
theorem dL_law_304 : decode cL_law 304 = .ok (.iload 16, 2) := by decide +kernel
theorem dL_law_306 : decode cL_law 306 = .ok (.iastore, 1) := by decide +kernel
theorem dL_law_307 : decode cL_law 307 = .ok (.aload_n 1, 1) := by decide +kernel
theorem dL_law_308 : decode cL_law 308 = .ok (.iload 13, 2) := by decide +kernel
theorem dL_law_310 : decode cL_law 310 = .ok (.iload 16, 2) := by decide +kernel
theorem dL_law_312 : decode cL_law 312 = .ok (.invokevirtual 100, 3) := by decide +kernel
theorem dL_law_315 : decode cL_law 315 = .ok (.iload 17, 2) := by decide +kernel
theorem dL_law_317 : decode cL_law 317 = .ok (.if_icmp .eq 5, 3) := by decide +kernel
theorem dL_law_320 : decode cL_law 320 = .ok (.iconst 0, 1) := by decide +kernel
theorem dL_law_321 : decode cL_law 321 = .ok (.ireturn, 1) := by decide +kernel
theorem dL_law_322 : decode cL_law 322 = .ok (.goto 488, 3) := by decide +kernel
theorem dL_law_325 : decode cL_law 325 = .ok (.iload 12, 2) := by decide +kernel
theorem dL_law_327 : decode cL_law 327 = .ok (.bipush 7, 2) := by decide +kernel
theorem dL_law_329 : decode cL_law 329 = .ok (.if_icmp .ne 63, 3) := by decide +kernel
theorem dL_law_332 : decode cL_law 332 = .ok (.aload_n 3, 1) := by decide +kernel
theorem dL_law_333 : decode cL_law 333 = .ok (.iconst 3, 1) := by decide +kernel
theorem dL_law_334 : decode cL_law 334 = .ok (.iload 13, 2) := by decide +kernel
theorem dL_law_336 : decode cL_law 336 = .ok (.iadd, 1) := by decide +kernel
theorem dL_law_337 : decode cL_law 337 = .ok (.iaload, 1) := by decide +kernel
theorem dL_law_338 : decode cL_law 338 = .ok (.iconst 1, 1) := by decide +kernel
theorem dL_law_339 : decode cL_law 339 = .ok (.if_icmp .ne 7, 3) := by decide +kernel
theorem dL_law_342 : decode cL_law 342 = .ok (.iconst 1, 1) := by decide +kernel
theorem dL_law_343 : decode cL_law 343 = .ok (.goto 4, 3) := by decide +kernel
theorem dL_law_346 : decode cL_law 346 = .ok (.iconst 0, 1) := by decide +kernel
theorem dL_law_347 : decode cL_law 347 = .ok (.istore 16, 2) := by decide +kernel
theorem dL_law_349 : decode cL_law 349 = .ok (.aload_n 3, 1) := by decide +kernel
theorem dL_law_350 : decode cL_law 350 = .ok (.iconst 3, 1) := by decide +kernel
theorem dL_law_351 : decode cL_law 351 = .ok (.iload 13, 2) := by decide +kernel
theorem dL_law_353 : decode cL_law 353 = .ok (.iadd, 1) := by decide +kernel
theorem dL_law_354 : decode cL_law 354 = .ok (.iload 11, 2) := by decide +kernel
theorem dL_law_356 : decode cL_law 356 = .ok (.iconst 2, 1) := by decide +kernel
theorem dL_law_357 : decode cL_law 357 = .ok (.invokestatic 89, 3) := by decide +kernel
theorem dL_law_360 : decode cL_law 360 = .ok (.iastore, 1) := by decide +kernel
theorem dL_law_361 : decode cL_law 361 = .ok (.aload_n 1, 1) := by decide +kernel
theorem dL_law_362 : decode cL_law 362 = .ok (.iload 13, 2) := by decide +kernel
theorem dL_law_364 : decode cL_law 364 = .ok (.iload 11, 2) := by decide +kernel
theorem dL_law_366 : decode cL_law 366 = .ok (.iconst 2, 1) := by decide +kernel
theorem dL_law_367 : decode cL_law 367 = .ok (.invokestatic 89, 3) := by decide +kernel
theorem dL_law_370 : decode cL_law 370 = .ok (.iconst 1, 1) := by decide +kernel
theorem dL_law_371 : decode cL_law 371 = .ok (.if_icmp .ne 7, 3) := by decide +kernel
theorem dL_law_374 : decode cL_law 374 = .ok (.iconst 1, 1) := by decide +kernel
theorem dL_law_375 : decode cL_law 375 = .ok (.goto 4, 3) := by decide +kernel
theorem dL_law_378 : decode cL_law 378 = .ok (.iconst 0, 1) := by decide +kernel
theorem dL_law_379 : decode cL_law 379 = .ok (.invokevirtual 103, 3) := by decide +kernel
theorem dL_law_382 : decode cL_law 382 = .ok (.iload 16, 2) := by decide +kernel
theorem dL_law_384 : decode cL_law 384 = .ok (.if_icmp .eq 5, 3) := by decide +kernel
theorem dL_law_387 : decode cL_law 387 = .ok (.iconst 0, 1) := by decide +kernel
theorem dL_law_388 : decode cL_law 388 = .ok (.ireturn, 1) := by decide +kernel
theorem dL_law_389 : decode cL_law 389 = .ok (.goto 421, 3) := by decide +kernel
theorem dL_law_392 : decode cL_law 392 = .ok (.iload 12, 2) := by decide +kernel
theorem dL_law_394 : decode cL_law 394 = .ok (.bipush 8, 2) := by decide +kernel
theorem dL_law_396 : decode cL_law 396 = .ok (.if_icmp .ne 80, 3) := by decide +kernel
theorem dL_law_399 : decode cL_law 399 = .ok (.iload 14, 2) := by decide +kernel
theorem dL_law_401 : decode cL_law 401 = .ok (.ifCond .lt 75, 3) := by decide +kernel
theorem dL_law_404 : decode cL_law 404 = .ok (.aload_n 3, 1) := by decide +kernel
theorem dL_law_405 : decode cL_law 405 = .ok (.bipush 6, 2) := by decide +kernel
theorem dL_law_407 : decode cL_law 407 = .ok (.iconst 3, 1) := by decide +kernel
theorem dL_law_408 : decode cL_law 408 = .ok (.iload 13, 2) := by decide +kernel
theorem dL_law_410 : decode cL_law 410 = .ok (.imul, 1) := by decide +kernel
theorem dL_law_411 : decode cL_law 411 = .ok (.iadd, 1) := by decide +kernel
theorem dL_law_412 : decode cL_law 412 = .ok (.iload 14, 2) := by decide +kernel
theorem dL_law_414 : decode cL_law 414 = .ok (.iadd, 1) := by decide +kernel
theorem dL_law_415 : decode cL_law 415 = .ok (.iaload, 1) := by decide +kernel
theorem dL_law_416 : decode cL_law 416 = .ok (.ifCond .ne 7, 3) := by decide +kernel
theorem dL_law_419 : decode cL_law 419 = .ok (.iconst 1, 1) := by decide +kernel
theorem dL_law_420 : decode cL_law 420 = .ok (.goto 4, 3) := by decide +kernel
theorem dL_law_423 : decode cL_law 423 = .ok (.iconst 0, 1) := by decide +kernel
theorem dL_law_424 : decode cL_law 424 = .ok (.istore 16, 2) := by decide +kernel
theorem dL_law_426 : decode cL_law 426 = .ok (.aload_n 3, 1) := by decide +kernel
theorem dL_law_427 : decode cL_law 427 = .ok (.bipush 6, 2) := by decide +kernel
theorem dL_law_429 : decode cL_law 429 = .ok (.iconst 3, 1) := by decide +kernel
theorem dL_law_430 : decode cL_law 430 = .ok (.iload 13, 2) := by decide +kernel
theorem dL_law_432 : decode cL_law 432 = .ok (.imul, 1) := by decide +kernel
theorem dL_law_433 : decode cL_law 433 = .ok (.iadd, 1) := by decide +kernel
theorem dL_law_434 : decode cL_law 434 = .ok (.iload 14, 2) := by decide +kernel
theorem dL_law_436 : decode cL_law 436 = .ok (.iadd, 1) := by decide +kernel
theorem dL_law_437 : decode cL_law 437 = .ok (.iload 11, 2) := by decide +kernel
theorem dL_law_439 : decode cL_law 439 = .ok (.iconst 2, 1) := by decide +kernel
theorem dL_law_440 : decode cL_law 440 = .ok (.invokestatic 89, 3) := by decide +kernel
theorem dL_law_443 : decode cL_law 443 = .ok (.iastore, 1) := by decide +kernel
theorem dL_law_444 : decode cL_law 444 = .ok (.aload_n 1, 1) := by decide +kernel
theorem dL_law_445 : decode cL_law 445 = .ok (.iload 13, 2) := by decide +kernel
theorem dL_law_447 : decode cL_law 447 = .ok (.iload 14, 2) := by decide +kernel
theorem dL_law_449 : decode cL_law 449 = .ok (.iload 11, 2) := by decide +kernel
theorem dL_law_451 : decode cL_law 451 = .ok (.iconst 2, 1) := by decide +kernel
theorem dL_law_452 : decode cL_law 452 = .ok (.invokestatic 89, 3) := by decide +kernel
theorem dL_law_455 : decode cL_law 455 = .ok (.ifCond .ne 7, 3) := by decide +kernel
theorem dL_law_458 : decode cL_law 458 = .ok (.iconst 1, 1) := by decide +kernel
theorem dL_law_459 : decode cL_law 459 = .ok (.goto 4, 3) := by decide +kernel
theorem dL_law_462 : decode cL_law 462 = .ok (.iconst 0, 1) := by decide +kernel
theorem dL_law_463 : decode cL_law 463 = .ok (.invokevirtual 107, 3) := by decide +kernel
theorem dL_law_466 : decode cL_law 466 = .ok (.iload 16, 2) := by decide +kernel
theorem dL_law_468 : decode cL_law 468 = .ok (.if_icmp .eq 5, 3) := by decide +kernel
theorem dL_law_471 : decode cL_law 471 = .ok (.iconst 0, 1) := by decide +kernel
theorem dL_law_472 : decode cL_law 472 = .ok (.ireturn, 1) := by decide +kernel
theorem dL_law_473 : decode cL_law 473 = .ok (.goto 337, 3) := by decide +kernel
theorem dL_law_476 : decode cL_law 476 = .ok (.iload 12, 2) := by decide +kernel
theorem dL_law_478 : decode cL_law 478 = .ok (.bipush 9, 2) := by decide +kernel
theorem dL_law_480 : decode cL_law 480 = .ok (.if_icmp .ne 145, 3) := by decide +kernel
theorem dL_law_483 : decode cL_law 483 = .ok (.aload 6, 2) := by decide +kernel
theorem dL_law_485 : decode cL_law 485 = .ok (.iload 15, 2) := by decide +kernel
theorem dL_law_487 : decode cL_law 487 = .ok (.iaload, 1) := by decide +kernel
theorem dL_law_488 : decode cL_law 488 = .ok (.bipush 6, 2) := by decide +kernel
theorem dL_law_490 : decode cL_law 490 = .ok (.if_icmp .ge 135, 3) := by decide +kernel
theorem dL_law_493 : decode cL_law 493 = .ok (.iload 11, 2) := by decide +kernel
theorem dL_law_495 : decode cL_law 495 = .ok (.iconst 3, 1) := by decide +kernel
theorem dL_law_496 : decode cL_law 496 = .ok (.ishr, 1) := by decide +kernel
theorem dL_law_497 : decode cL_law 497 = .ok (.iconst 3, 1) := by decide +kernel
theorem dL_law_498 : decode cL_law 498 = .ok (.invokestatic 89, 3) := by decide +kernel
theorem dL_law_501 : decode cL_law 501 = .ok (.ifCond .ne 8, 3) := by decide +kernel
theorem dL_law_504 : decode cL_law 504 = .ok (.iload 8, 2) := by decide +kernel
theorem dL_law_506 : decode cL_law 506 = .ok (.goto 21, 3) := by decide +kernel
theorem dL_law_509 : decode cL_law 509 = .ok (.iload 8, 2) := by decide +kernel
theorem dL_law_511 : decode cL_law 511 = .ok (.iload 11, 2) := by decide +kernel
theorem dL_law_513 : decode cL_law 513 = .ok (.iconst 5, 1) := by decide +kernel
theorem dL_law_514 : decode cL_law 514 = .ok (.ishr, 1) := by decide +kernel
theorem dL_law_515 : decode cL_law 515 = .ok (.sipush 400, 3) := by decide +kernel
theorem dL_law_518 : decode cL_law 518 = .ok (.invokestatic 89, 3) := by decide +kernel
theorem dL_law_521 : decode cL_law 521 = .ok (.iload 8, 2) := by decide +kernel
theorem dL_law_523 : decode cL_law 523 = .ok (.iconst 1, 1) := by decide +kernel
theorem dL_law_524 : decode cL_law 524 = .ok (.iadd, 1) := by decide +kernel
theorem dL_law_525 : decode cL_law 525 = .ok (.irem, 1) := by decide +kernel
theorem dL_law_526 : decode cL_law 526 = .ok (.isub, 1) := by decide +kernel
theorem dL_law_527 : decode cL_law 527 = .ok (.istore 16, 2) := by decide +kernel
theorem dL_law_529 : decode cL_law 529 = .ok (.iload 11, 2) := by decide +kernel
theorem dL_law_531 : decode cL_law 531 = .ok (.bipush 16, 2) := by decide +kernel
theorem dL_law_533 : decode cL_law 533 = .ok (.ishr, 1) := by decide +kernel
theorem dL_law_534 : decode cL_law 534 = .ok (.iconst 4, 1) := by decide +kernel
theorem dL_law_535 : decode cL_law 535 = .ok (.invokestatic 89, 3) := by decide +kernel
theorem dL_law_538 : decode cL_law 538 = .ok (.ifCond .ne 7, 3) := by decide +kernel
theorem dL_law_541 : decode cL_law 541 = .ok (.iconst 0, 1) := by decide +kernel
theorem dL_law_542 : decode cL_law 542 = .ok (.goto 4, 3) := by decide +kernel
theorem dL_law_545 : decode cL_law 545 = .ok (.iconst 1, 1) := by decide +kernel
theorem dL_law_546 : decode cL_law 546 = .ok (.istore 17, 2) := by decide +kernel
theorem dL_law_548 : decode cL_law 548 = .ok (.aload 5, 2) := by decide +kernel
theorem dL_law_550 : decode cL_law 550 = .ok (.bipush 6, 2) := by decide +kernel
theorem dL_law_552 : decode cL_law 552 = .ok (.iload 15, 2) := by decide +kernel
theorem dL_law_554 : decode cL_law 554 = .ok (.imul, 1) := by decide +kernel
theorem dL_law_555 : decode cL_law 555 = .ok (.aload 6, 2) := by decide +kernel
theorem dL_law_557 : decode cL_law 557 = .ok (.iload 15, 2) := by decide +kernel
theorem dL_law_559 : decode cL_law 559 = .ok (.iaload, 1) := by decide +kernel
theorem dL_law_560 : decode cL_law 560 = .ok (.iadd, 1) := by decide +kernel
theorem dL_law_561 : decode cL_law 561 = .ok (.iconst 2, 1) := by decide +kernel
theorem dL_law_562 : decode cL_law 562 = .ok (.iload 16, 2) := by decide +kernel
theorem dL_law_564 : decode cL_law 564 = .ok (.imul, 1) := by decide +kernel
theorem dL_law_565 : decode cL_law 565 = .ok (.iload 17, 2) := by decide +kernel
theorem dL_law_567 : decode cL_law 567 = .ok (.iadd, 1) := by decide +kernel
theorem dL_law_568 : decode cL_law 568 = .ok (.iastore, 1) := by decide +kernel
theorem dL_law_569 : decode cL_law 569 = .ok (.aload 6, 2) := by decide +kernel
theorem dL_law_571 : decode cL_law 571 = .ok (.iload 15, 2) := by decide +kernel
theorem dL_law_573 : decode cL_law 573 = .ok (.dup2, 1) := by decide +kernel
theorem dL_law_574 : decode cL_law 574 = .ok (.iaload, 1) := by decide +kernel
theorem dL_law_575 : decode cL_law 575 = .ok (.iconst 1, 1) := by decide +kernel
theorem dL_law_576 : decode cL_law 576 = .ok (.iadd, 1) := by decide +kernel
theorem dL_law_577 : decode cL_law 577 = .ok (.iastore, 1) := by decide +kernel
theorem dL_law_578 : decode cL_law 578 = .ok (.aload_n 1, 1) := by decide +kernel
theorem dL_law_579 : decode cL_law 579 = .ok (.iload 15, 2) := by decide +kernel
theorem dL_law_581 : decode cL_law 581 = .ok (.iconst 3, 1) := by decide +kernel
theorem dL_law_582 : decode cL_law 582 = .ok (.if_icmp .ge 8, 3) := by decide +kernel
theorem dL_law_585 : decode cL_law 585 = .ok (.iload 15, 2) := by decide +kernel
theorem dL_law_587 : decode cL_law 587 = .ok (.goto 8, 3) := by decide +kernel
theorem dL_law_590 : decode cL_law 590 = .ok (.bipush 7, 2) := by decide +kernel
theorem dL_law_592 : decode cL_law 592 = .ok (.iload 15, 2) := by decide +kernel
theorem dL_law_594 : decode cL_law 594 = .ok (.iadd, 1) := by decide +kernel
theorem dL_law_595 : decode cL_law 595 = .ok (.iconst 0, 1) := by decide +kernel
theorem dL_law_596 : decode cL_law 596 = .ok (.iload 16, 2) := by decide +kernel
theorem dL_law_598 : decode cL_law 598 = .ok (.iload 17, 2) := by decide +kernel
theorem dL_law_600 : decode cL_law 600 = .ok (.iconst 1, 1) := by decide +kernel
theorem dL_law_601 : decode cL_law 601 = .ok (.if_icmp .ne 7, 3) := by decide +kernel
theorem dL_law_604 : decode cL_law 604 = .ok (.iconst 1, 1) := by decide +kernel
theorem dL_law_605 : decode cL_law 605 = .ok (.goto 4, 3) := by decide +kernel
theorem dL_law_608 : decode cL_law 608 = .ok (.iconst 0, 1) := by decide +kernel
theorem dL_law_609 : decode cL_law 609 = .ok (.invokevirtual 111, 3) := by decide +kernel
theorem dL_law_612 : decode cL_law 612 = .ok (.aload 6, 2) := by decide +kernel
theorem dL_law_614 : decode cL_law 614 = .ok (.iload 15, 2) := by decide +kernel
theorem dL_law_616 : decode cL_law 616 = .ok (.iaload, 1) := by decide +kernel
theorem dL_law_617 : decode cL_law 617 = .ok (.if_icmp .eq 5, 3) := by decide +kernel
theorem dL_law_620 : decode cL_law 620 = .ok (.iconst 0, 1) := by decide +kernel
theorem dL_law_621 : decode cL_law 621 = .ok (.ireturn, 1) := by decide +kernel
theorem dL_law_622 : decode cL_law 622 = .ok (.goto 188, 3) := by decide +kernel
theorem dL_law_625 : decode cL_law 625 = .ok (.iload 12, 2) := by decide +kernel
theorem dL_law_627 : decode cL_law 627 = .ok (.bipush 10, 2) := by decide +kernel
theorem dL_law_629 : decode cL_law 629 = .ok (.if_icmp .ne 132, 3) := by decide +kernel
theorem dL_law_632 : decode cL_law 632 = .ok (.iload 11, 2) := by decide +kernel
theorem dL_law_634 : decode cL_law 634 = .ok (.bipush 6, 2) := by decide +kernel
theorem dL_law_636 : decode cL_law 636 = .ok (.invokestatic 89, 3) := by decide +kernel
theorem dL_law_639 : decode cL_law 639 = .ok (.ifCond .ne 122, 3) := by decide +kernel
theorem dL_law_642 : decode cL_law 642 = .ok (.iconst 0, 1) := by decide +kernel
theorem dL_law_643 : decode cL_law 643 = .ok (.istore 16, 2) := by decide +kernel
theorem dL_law_645 : decode cL_law 645 = .ok (.iconst 0, 1) := by decide +kernel
theorem dL_law_646 : decode cL_law 646 = .ok (.istore 17, 2) := by decide +kernel
theorem dL_law_648 : decode cL_law 648 = .ok (.iload 17, 2) := by decide +kernel
theorem dL_law_650 : decode cL_law 650 = .ok (.iload 7, 2) := by decide +kernel
theorem dL_law_652 : decode cL_law 652 = .ok (.if_icmp .ge 36, 3) := by decide +kernel
theorem dL_law_655 : decode cL_law 655 = .ok (.aload_n 2, 1) := by decide +kernel
theorem dL_law_656 : decode cL_law 656 = .ok (.aload_n 3, 1) := by decide +kernel
theorem dL_law_657 : decode cL_law 657 = .ok (.aload 4, 2) := by decide +kernel
theorem dL_law_659 : decode cL_law 659 = .ok (.iload 17, 2) := by decide +kernel
theorem dL_law_661 : decode cL_law 661 = .ok (.iload 15, 2) := by decide +kernel
theorem dL_law_663 : decode cL_law 663 = .ok (.invokestatic 45, 3) := by decide +kernel
theorem dL_law_666 : decode cL_law 666 = .ok (.ifCond .ne 6, 3) := by decide +kernel
theorem dL_law_669 : decode cL_law 669 = .ok (.goto 13, 3) := by decide +kernel
theorem dL_law_672 : decode cL_law 672 = .ok (.iinc 16 1, 3) := by decide +kernel
theorem dL_law_675 : decode cL_law 675 = .ok (.aload_n 2, 1) := by decide +kernel
theorem dL_law_676 : decode cL_law 676 = .ok (.iload 17, 2) := by decide +kernel
theorem dL_law_678 : decode cL_law 678 = .ok (.ldc2_w 115, 3) := by decide +kernel
theorem dL_law_681 : decode cL_law 681 = .ok (.lastore, 1) := by decide +kernel
theorem dL_law_682 : decode cL_law 682 = .ok (.iinc 17 1, 3) := by decide +kernel
theorem dL_law_685 : decode cL_law 685 = .ok (.goto (-37), 3) := by decide +kernel
theorem dL_law_688 : decode cL_law 688 = .ok (.iconst 0, 1) := by decide +kernel
theorem dL_law_689 : decode cL_law 689 = .ok (.istore 17, 2) := by decide +kernel
theorem dL_law_691 : decode cL_law 691 = .ok (.iload 17, 2) := by decide +kernel
theorem dL_law_693 : decode cL_law 693 = .ok (.bipush 6, 2) := by decide +kernel
theorem dL_law_695 : decode cL_law 695 = .ok (.if_icmp .ge 36, 3) := by decide +kernel
theorem dL_law_698 : decode cL_law 698 = .ok (.aload 6, 2) := by decide +kernel
theorem dL_law_700 : decode cL_law 700 = .ok (.iload 17, 2) := by decide +kernel
theorem dL_law_702 : decode cL_law 702 = .ok (.aload 4, 2) := by decide +kernel
theorem dL_law_704 : decode cL_law 704 = .ok (.iload 17, 2) := by decide +kernel
theorem dL_law_706 : decode cL_law 706 = .ok (.iaload, 1) := by decide +kernel
theorem dL_law_707 : decode cL_law 707 = .ok (.aload 4, 2) := by decide +kernel
theorem dL_law_709 : decode cL_law 709 = .ok (.iload 15, 2) := by decide +kernel
theorem dL_law_711 : decode cL_law 711 = .ok (.iaload, 1) := by decide +kernel
theorem dL_law_712 : decode cL_law 712 = .ok (.if_icmp .ne 7, 3) := by decide +kernel
theorem dL_law_715 : decode cL_law 715 = .ok (.iconst 0, 1) := by decide +kernel
theorem dL_law_716 : decode cL_law 716 = .ok (.goto 8, 3) := by decide +kernel
theorem dL_law_719 : decode cL_law 719 = .ok (.aload 6, 2) := by decide +kernel
theorem dL_law_721 : decode cL_law 721 = .ok (.iload 17, 2) := by decide +kernel
theorem dL_law_723 : decode cL_law 723 = .ok (.iaload, 1) := by decide +kernel
theorem dL_law_724 : decode cL_law 724 = .ok (.iastore, 1) := by decide +kernel
theorem dL_law_725 : decode cL_law 725 = .ok (.iinc 17 1, 3) := by decide +kernel
theorem dL_law_728 : decode cL_law 728 = .ok (.goto (-37), 3) := by decide +kernel
theorem dL_law_731 : decode cL_law 731 = .ok (.aload_n 1, 1) := by decide +kernel
theorem dL_law_732 : decode cL_law 732 = .ok (.iload 15, 2) := by decide +kernel
theorem dL_law_734 : decode cL_law 734 = .ok (.iconst 3, 1) := by decide +kernel
theorem dL_law_735 : decode cL_law 735 = .ok (.if_icmp .ge 8, 3) := by decide +kernel
theorem dL_law_738 : decode cL_law 738 = .ok (.iload 15, 2) := by decide +kernel
theorem dL_law_740 : decode cL_law 740 = .ok (.goto 8, 3) := by decide +kernel
theorem dL_law_743 : decode cL_law 743 = .ok (.bipush 7, 2) := by decide +kernel
theorem dL_law_745 : decode cL_law 745 = .ok (.iload 15, 2) := by decide +kernel
theorem dL_law_747 : decode cL_law 747 = .ok (.iadd, 1) := by decide +kernel
theorem dL_law_748 : decode cL_law 748 = .ok (.invokevirtual 117, 3) := by decide +kernel
theorem dL_law_751 : decode cL_law 751 = .ok (.iload 16, 2) := by decide +kernel
theorem dL_law_753 : decode cL_law 753 = .ok (.if_icmp .eq 5, 3) := by decide +kernel
theorem dL_law_756 : decode cL_law 756 = .ok (.iconst 0, 1) := by decide +kernel
theorem dL_law_757 : decode cL_law 757 = .ok (.ireturn, 1) := by decide +kernel
theorem dL_law_758 : decode cL_law 758 = .ok (.goto 52, 3) := by decide +kernel
theorem dL_law_761 : decode cL_law 761 = .ok (.iconst 1, 1) := by decide +kernel
theorem dL_law_762 : decode cL_law 762 = .ok (.iload 11, 2) := by decide +kernel
theorem dL_law_764 : decode cL_law 764 = .ok (.iload 10, 2) := by decide +kernel
theorem dL_law_766 : decode cL_law 766 = .ok (.bipush 9, 2) := by decide +kernel
theorem dL_law_768 : decode cL_law 768 = .ok (.ishr, 1) := by decide +kernel
theorem dL_law_769 : decode cL_law 769 = .ok (.iconst 3, 1) := by decide +kernel
theorem dL_law_770 : decode cL_law 770 = .ok (.invokestatic 89, 3) := by decide +kernel
theorem dL_law_773 : decode cL_law 773 = .ok (.ifCond .ne 9, 3) := by decide +kernel
theorem dL_law_776 : decode cL_law 776 = .ok (.sipush 1500, 3) := by decide +kernel
theorem dL_law_779 : decode cL_law 779 = .ok (.goto 5, 3) := by decide +kernel
theorem dL_law_782 : decode cL_law 782 = .ok (.bipush 60, 2) := by decide +kernel
theorem dL_law_784 : decode cL_law 784 = .ok (.invokestatic 89, 3) := by decide +kernel
theorem dL_law_787 : decode cL_law 787 = .ok (.iadd, 1) := by decide +kernel
theorem dL_law_788 : decode cL_law 788 = .ok (.istore 16, 2) := by decide +kernel
theorem dL_law_790 : decode cL_law 790 = .ok (.iload 8, 2) := by decide +kernel
theorem dL_law_792 : decode cL_law 792 = .ok (.iload 16, 2) := by decide +kernel
theorem dL_law_794 : decode cL_law 794 = .ok (.iadd, 1) := by decide +kernel
theorem dL_law_795 : decode cL_law 795 = .ok (.istore 8, 2) := by decide +kernel
theorem dL_law_797 : decode cL_law 797 = .ok (.aload_n 1, 1) := by decide +kernel
theorem dL_law_798 : decode cL_law 798 = .ok (.iload 16, 2) := by decide +kernel
theorem dL_law_800 : decode cL_law 800 = .ok (.invokevirtual 120, 3) := by decide +kernel
theorem dL_law_803 : decode cL_law 803 = .ok (.iload 8, 2) := by decide +kernel
theorem dL_law_805 : decode cL_law 805 = .ok (.if_icmp .eq 5, 3) := by decide +kernel
theorem dL_law_808 : decode cL_law 808 = .ok (.iconst 0, 1) := by decide +kernel
theorem dL_law_809 : decode cL_law 809 = .ok (.ireturn, 1) := by decide +kernel
theorem dL_law_810 : decode cL_law 810 = .ok (.aload_n 2, 1) := by decide +kernel
theorem dL_law_811 : decode cL_law 811 = .ok (.aload_n 3, 1) := by decide +kernel
theorem dL_law_812 : decode cL_law 812 = .ok (.aload 4, 2) := by decide +kernel
theorem dL_law_814 : decode cL_law 814 = .ok (.iload 7, 2) := by decide +kernel
theorem dL_law_816 : decode cL_law 816 = .ok (.invokestatic 92, 3) := by decide +kernel
theorem dL_law_819 : decode cL_law 819 = .ok (.aload_n 1, 1) := by decide +kernel
theorem dL_law_820 : decode cL_law 820 = .ok (.aload_n 2, 1) := by decide +kernel
theorem dL_law_821 : decode cL_law 821 = .ok (.aload_n 3, 1) := by decide +kernel
theorem dL_law_822 : decode cL_law 822 = .ok (.aload 4, 2) := by decide +kernel
theorem dL_law_824 : decode cL_law 824 = .ok (.aload 5, 2) := by decide +kernel
theorem dL_law_826 : decode cL_law 826 = .ok (.aload 6, 2) := by decide +kernel
theorem dL_law_828 : decode cL_law 828 = .ok (.iload 7, 2) := by decide +kernel
theorem dL_law_830 : decode cL_law 830 = .ok (.iload 11, 2) := by decide +kernel
theorem dL_law_832 : decode cL_law 832 = .ok (.iconst 3, 1) := by decide +kernel
theorem dL_law_833 : decode cL_law 833 = .ok (.ishr, 1) := by decide +kernel
theorem dL_law_834 : decode cL_law 834 = .ok (.bipush 6, 2) := by decide +kernel
theorem dL_law_836 : decode cL_law 836 = .ok (.invokestatic 89, 3) := by decide +kernel
theorem dL_law_839 : decode cL_law 839 = .ok (.iload 8, 2) := by decide +kernel
theorem dL_law_841 : decode cL_law 841 = .ok (.invokestatic 123, 3) := by decide +kernel
theorem dL_law_844 : decode cL_law 844 = .ok (.ifCond .ne 5, 3) := by decide +kernel
theorem dL_law_847 : decode cL_law 847 = .ok (.iconst 0, 1) := by decide +kernel
theorem dL_law_848 : decode cL_law 848 = .ok (.ireturn, 1) := by decide +kernel
theorem dL_law_849 : decode cL_law 849 = .ok (.iinc 9 1, 3) := by decide +kernel
theorem dL_law_852 : decode cL_law 852 = .ok (.goto (-792), 3) := by decide +kernel
theorem dL_law_855 : decode cL_law 855 = .ok (.iconst 1, 1) := by decide +kernel
theorem dL_law_856 : decode cL_law 856 = .ok (.ireturn, 1) := by decide +kernel
