theorem dX7_init_0 : decode cX7_init 0 = .ok (.aload_n 0, 1) := by decide +kernel
theorem dX7_init_1 : decode cX7_init 1 = .ok (.invokespecial 1, 3) := by decide +kernel
theorem dX7_init_4 : decode cX7_init 4 = .ok (.aload_n 0, 1) := by decide +kernel
theorem dX7_init_5 : decode cX7_init 5 = .ok (.sipush 1440, 3) := by decide +kernel
theorem dX7_init_8 : decode cX7_init 8 = .ok (.putfield 7, 3) := by decide +kernel
theorem dX7_init_11 : decode cX7_init 11 = .ok (.aload_n 0, 1) := by decide +kernel
theorem dX7_init_12 : decode cX7_init 12 = .ok (.sipush 200, 3) := by decide +kernel
theorem dX7_init_15 : decode cX7_init 15 = .ok (.newarray .int, 2) := by decide +kernel
theorem dX7_init_17 : decode cX7_init 17 = .ok (.putfield 13, 3) := by decide +kernel
theorem dX7_init_20 : decode cX7_init 20 = .ok (.aload_n 0, 1) := by decide +kernel
theorem dX7_init_21 : decode cX7_init 21 = .ok (.sipush 200, 3) := by decide +kernel
theorem dX7_init_24 : decode cX7_init 24 = .ok (.newarray .int, 2) := by decide +kernel
theorem dX7_init_26 : decode cX7_init 26 = .ok (.putfield 17, 3) := by decide +kernel
theorem dX7_init_29 : decode cX7_init 29 = .ok (.aload_n 0, 1) := by decide +kernel
theorem dX7_init_30 : decode cX7_init 30 = .ok (.sipush 200, 3) := by decide +kernel
theorem dX7_init_33 : decode cX7_init 33 = .ok (.newarray .int, 2) := by decide +kernel
theorem dX7_init_35 : decode cX7_init 35 = .ok (.putfield 20, 3) := by decide +kernel
theorem dX7_init_38 : decode cX7_init 38 = .ok (.aload_n 0, 1) := by decide +kernel
theorem dX7_init_39 : decode cX7_init 39 = .ok (.sipush 200, 3) := by decide +kernel
theorem dX7_init_42 : decode cX7_init 42 = .ok (.newarray .int, 2) := by decide +kernel
theorem dX7_init_44 : decode cX7_init 44 = .ok (.putfield 23, 3) := by decide +kernel
theorem dX7_init_47 : decode cX7_init 47 = .ok (.aload_n 0, 1) := by decide +kernel
theorem dX7_init_48 : decode cX7_init 48 = .ok (.sipush 200, 3) := by decide +kernel
theorem dX7_init_51 : decode cX7_init 51 = .ok (.newarray .int, 2) := by decide +kernel
theorem dX7_init_53 : decode cX7_init 53 = .ok (.putfield 26, 3) := by decide +kernel
theorem dX7_init_56 : decode cX7_init 56 = .ok (.aload_n 0, 1) := by decide +kernel
theorem dX7_init_57 : decode cX7_init 57 = .ok (.sipush 200, 3) := by decide +kernel
theorem dX7_init_60 : decode cX7_init 60 = .ok (.newarray .int, 2) := by decide +kernel
theorem dX7_init_62 : decode cX7_init 62 = .ok (.putfield 29, 3) := by decide +kernel
theorem dX7_init_65 : decode cX7_init 65 = .ok (.aload_n 0, 1) := by decide +kernel
theorem dX7_init_66 : decode cX7_init 66 = .ok (.sipush 200, 3) := by decide +kernel
theorem dX7_init_69 : decode cX7_init 69 = .ok (.newarray .boolean, 2) := by decide +kernel
theorem dX7_init_71 : decode cX7_init 71 = .ok (.putfield 32, 3) := by decide +kernel
theorem dX7_init_74 : decode cX7_init 74 = .ok (.aload_n 0, 1) := by decide +kernel
theorem dX7_init_75 : decode cX7_init 75 = .ok (.sipush 1000, 3) := by decide +kernel
theorem dX7_init_78 : decode cX7_init 78 = .ok (.newarray .boolean, 2) := by decide +kernel
theorem dX7_init_80 : decode cX7_init 80 = .ok (.putfield 36, 3) := by decide +kernel
theorem dX7_init_83 : decode cX7_init 83 = .ok (.aload_n 0, 1) := by decide +kernel
theorem dX7_init_84 : decode cX7_init 84 = .ok (.bipush 10, 2) := by decide +kernel
theorem dX7_init_86 : decode cX7_init 86 = .ok (.newarray .int, 2) := by decide +kernel
theorem dX7_init_88 : decode cX7_init 88 = .ok (.putfield 39, 3) := by decide +kernel
theorem dX7_init_91 : decode cX7_init 91 = .ok (.aload_n 0, 1) := by decide +kernel
theorem dX7_init_92 : decode cX7_init 92 = .ok (.bipush 10, 2) := by decide +kernel
theorem dX7_init_94 : decode cX7_init 94 = .ok (.newarray .boolean, 2) := by decide +kernel
theorem dX7_init_96 : decode cX7_init 96 = .ok (.putfield 42, 3) := by decide +kernel
theorem dX7_init_99 : decode cX7_init 99 = .ok (.aload_n 0, 1) := by decide +kernel
theorem dX7_init_100 : decode cX7_init 100 = .ok (.bipush 100, 2) := by decide +kernel
theorem dX7_init_102 : decode cX7_init 102 = .ok (.newarray .boolean, 2) := by decide +kernel
theorem dX7_init_104 : decode cX7_init 104 = .ok (.putfield 45, 3) := by decide +kernel
theorem dX7_init_107 : decode cX7_init 107 = .ok (.aload_n 0, 1) := by decide +kernel
theorem dX7_init_108 : decode cX7_init 108 = .ok (.bipush 80, 2) := by decide +kernel
theorem dX7_init_110 : decode cX7_init 110 = .ok (.newarray .int, 2) := by decide +kernel
theorem dX7_init_112 : decode cX7_init 112 = .ok (.putfield 48, 3) := by decide +kernel
theorem dX7_init_115 : decode cX7_init 115 = .ok (.aload_n 0, 1) := by decide +kernel
theorem dX7_init_116 : decode cX7_init 116 = .ok (.sipush 1600, 3) := by decide +kernel
theorem dX7_init_119 : decode cX7_init 119 = .ok (.newarray .int, 2) := by decide +kernel
theorem dX7_init_121 : decode cX7_init 121 = .ok (.putfield 51, 3) := by decide +kernel
theorem dX7_init_124 : decode cX7_init 124 = .ok (.aload_n 0, 1) := by decide +kernel
theorem dX7_init_125 : decode cX7_init 125 = .ok (.sipush 1600, 3) := by decide +kernel
theorem dX7_init_128 : decode cX7_init 128 = .ok (.newarray .boolean, 2) := by decide +kernel
theorem dX7_init_130 : decode cX7_init 130 = .ok (.putfield 54, 3) := by decide +kernel
theorem dX7_init_133 : decode cX7_init 133 = .ok (.aload_n 0, 1) := by decide +kernel
theorem dX7_init_134 : decode cX7_init 134 = .ok (.bipush 8, 2) := by decide +kernel
theorem dX7_init_136 : decode cX7_init 136 = .ok (.newarray .int, 2) := by decide +kernel
theorem dX7_init_138 : decode cX7_init 138 = .ok (.putfield 57, 3) := by decide +kernel
theorem dX7_init_141 : decode cX7_init 141 = .ok (.aload_n 0, 1) := by decide +kernel
theorem dX7_init_142 : decode cX7_init 142 = .ok (.bipush 8, 2) := by decide +kernel
theorem dX7_init_144 : decode cX7_init 144 = .ok (.newarray .int, 2) := by decide +kernel
theorem dX7_init_146 : decode cX7_init 146 = .ok (.putfield 60, 3) := by decide +kernel
theorem dX7_init_149 : decode cX7_init 149 = .ok (.aload_n 0, 1) := by decide +kernel
theorem dX7_init_150 : decode cX7_init 150 = .ok (.bipush 8, 2) := by decide +kernel
theorem dX7_init_152 : decode cX7_init 152 = .ok (.newarray .int, 2) := by decide +kernel
theorem dX7_init_154 : decode cX7_init 154 = .ok (.putfield 63, 3) := by decide +kernel
theorem dX7_init_157 : decode cX7_init 157 = .ok (.aload_n 0, 1) := by decide +kernel
theorem dX7_init_158 : decode cX7_init 158 = .ok (.bipush 8, 2) := by decide +kernel
theorem dX7_init_160 : decode cX7_init 160 = .ok (.newarray .int, 2) := by decide +kernel
theorem dX7_init_162 : decode cX7_init 162 = .ok (.putfield 66, 3) := by decide +kernel
theorem dX7_init_165 : decode cX7_init 165 = .ok (.aload_n 0, 1) := by decide +kernel
theorem dX7_init_166 : decode cX7_init 166 = .ok (.sipush 160, 3) := by decide +kernel
theorem dX7_init_169 : decode cX7_init 169 = .ok (.newarray .boolean, 2) := by decide +kernel
theorem dX7_init_171 : decode cX7_init 171 = .ok (.putfield 69, 3) := by decide +kernel
theorem dX7_init_174 : decode cX7_init 174 = .ok (.aload_n 0, 1) := by decide +kernel
theorem dX7_init_175 : decode cX7_init 175 = .ok (.bipush 20, 2) := by decide +kernel
theorem dX7_init_177 : decode cX7_init 177 = .ok (.newarray .boolean, 2) := by decide +kernel
theorem dX7_init_179 : decode cX7_init 179 = .ok (.putfield 72, 3) := by decide +kernel
theorem dX7_init_182 : decode cX7_init 182 = .ok (.aload_n 0, 1) := by decide +kernel
theorem dX7_init_183 : decode cX7_init 183 = .ok (.sipush 160, 3) := by decide +kernel
theorem dX7_init_186 : decode cX7_init 186 = .ok (.newarray .int, 2) := by decide +kernel
theorem dX7_init_188 : decode cX7_init 188 = .ok (.putfield 75, 3) := by decide +kernel
theorem dX7_init_191 : decode cX7_init 191 = .ok (.aload_n 0, 1) := by decide +kernel
theorem dX7_init_192 : decode cX7_init 192 = .ok (.bipush 20, 2) := by decide +kernel
theorem dX7_init_194 : decode cX7_init 194 = .ok (.newarray .int, 2) := by decide +kernel
theorem dX7_init_196 : decode cX7_init 196 = .ok (.putfield 78, 3) := by decide +kernel
theorem dX7_init_199 : decode cX7_init 199 = .ok (.return_, 1) := by decide +kernel
theorem dX7_thrown_0 : decode cX7_thrown 0 = .ok (.aload_n 0, 1) := by decide +kernel
theorem dX7_thrown_1 : decode cX7_thrown 1 = .ok (.getfield 81, 3) := by decide +kernel
theorem dX7_thrown_4 : decode cX7_thrown 4 = .ok (.ireturn, 1) := by decide +kernel
theorem dX7_isIn_0 : decode cX7_isIn 0 = .ok (.iload_n 0, 1) := by decide +kernel
theorem dX7_isIn_1 : decode cX7_isIn 1 = .ok (.iload_n 1, 1) := by decide +kernel
theorem dX7_isIn_2 : decode cX7_isIn 2 = .ok (.if_icmp .lt 12, 3) := by decide +kernel
theorem dX7_isIn_5 : decode cX7_isIn 5 = .ok (.iload_n 0, 1) := by decide +kernel
theorem dX7_isIn_6 : decode cX7_isIn 6 = .ok (.iload_n 2, 1) := by decide +kernel
theorem dX7_isIn_7 : decode cX7_isIn 7 = .ok (.if_icmp .gt 7, 3) := by decide +kernel
theorem dX7_isIn_10 : decode cX7_isIn 10 = .ok (.iconst 1, 1) := by decide +kernel
theorem dX7_isIn_11 : decode cX7_isIn 11 = .ok (.goto 4, 3) := by decide +kernel
theorem dX7_isIn_14 : decode cX7_isIn 14 = .ok (.iconst 0, 1) := by decide +kernel
theorem dX7_isIn_15 : decode cX7_isIn 15 = .ok (.ireturn, 1) := by decide +kernel
theorem dX7_timeOf_0 : decode cX7_timeOf 0 = .ok (.aload_n 0, 1) := by decide +kernel
theorem dX7_timeOf_1 : decode cX7_timeOf 1 = .ok (.getfield 29, 3) := by decide +kernel
theorem dX7_timeOf_4 : decode cX7_timeOf 4 = .ok (.iload_n 1, 1) := by decide +kernel
theorem dX7_timeOf_5 : decode cX7_timeOf 5 = .ok (.iaload, 1) := by decide +kernel
theorem dX7_timeOf_6 : decode cX7_timeOf 6 = .ok (.aload_n 0, 1) := by decide +kernel
theorem dX7_timeOf_7 : decode cX7_timeOf 7 = .ok (.getfield 39, 3) := by decide +kernel
theorem dX7_timeOf_10 : decode cX7_timeOf 10 = .ok (.aload_n 0, 1) := by decide +kernel
theorem dX7_timeOf_11 : decode cX7_timeOf 11 = .ok (.getfield 17, 3) := by decide +kernel
theorem dX7_timeOf_14 : decode cX7_timeOf 14 = .ok (.iload_n 1, 1) := by decide +kernel
theorem dX7_timeOf_15 : decode cX7_timeOf 15 = .ok (.iaload, 1) := by decide +kernel
theorem dX7_timeOf_16 : decode cX7_timeOf 16 = .ok (.iaload, 1) := by decide +kernel
theorem dX7_timeOf_17 : decode cX7_timeOf 17 = .ok (.isub, 1) := by decide +kernel
theorem dX7_timeOf_18 : decode cX7_timeOf 18 = .ok (.istore_n 2, 1) := by decide +kernel
theorem dX7_timeOf_19 : decode cX7_timeOf 19 = .ok (.iload_n 2, 1) := by decide +kernel
theorem dX7_timeOf_20 : decode cX7_timeOf 20 = .ok (.ifCond .ge 7, 3) := by decide +kernel
theorem dX7_timeOf_23 : decode cX7_timeOf 23 = .ok (.iconst 0, 1) := by decide +kernel
theorem dX7_timeOf_24 : decode cX7_timeOf 24 = .ok (.goto 4, 3) := by decide +kernel
theorem dX7_timeOf_27 : decode cX7_timeOf 27 = .ok (.iload_n 2, 1) := by decide +kernel
theorem dX7_timeOf_28 : decode cX7_timeOf 28 = .ok (.ireturn, 1) := by decide +kernel
theorem dX7_event_0 : decode cX7_event 0 = .ok (.iload_n 1, 1) := by decide +kernel
theorem dX7_event_1 : decode cX7_event 1 = .ok (.iconst 0, 1) := by decide +kernel
theorem dX7_event_2 : decode cX7_event 2 = .ok (.sipush 999, 3) := by decide +kernel
theorem dX7_event_5 : decode cX7_event 5 = .ok (.invokestatic 84, 3) := by decide +kernel
theorem dX7_event_8 : decode cX7_event 8 = .ok (.ifCond .eq 59, 3) := by decide +kernel
theorem dX7_event_11 : decode cX7_event 11 = .ok (.iload_n 2, 1) := by decide +kernel
theorem dX7_event_12 : decode cX7_event 12 = .ok (.iconst 0, 1) := by decide +kernel
theorem dX7_event_13 : decode cX7_event 13 = .ok (.bipush 9, 2) := by decide +kernel
theorem dX7_event_15 : decode cX7_event 15 = .ok (.invokestatic 84, 3) := by decide +kernel
theorem dX7_event_18 : decode cX7_event 18 = .ok (.ifCond .eq 49, 3) := by decide +kernel
theorem dX7_event_21 : decode cX7_event 21 = .ok (.iload_n 3, 1) := by decide +kernel
theorem dX7_event_22 : decode cX7_event 22 = .ok (.iconst (-1), 1) := by decide +kernel
theorem dX7_event_23 : decode cX7_event 23 = .ok (.bipush 9, 2) := by decide +kernel
theorem dX7_event_25 : decode cX7_event 25 = .ok (.invokestatic 84, 3) := by decide +kernel
theorem dX7_event_28 : decode cX7_event 28 = .ok (.ifCond .eq 39, 3) := by decide +kernel
theorem dX7_event_31 : decode cX7_event 31 = .ok (.iload 4, 2) := by decide +kernel
theorem dX7_event_33 : decode cX7_event 33 = .ok (.iconst 0, 1) := by decide +kernel
theorem dX7_event_34 : decode cX7_event 34 = .ok (.iconst 4, 1) := by decide +kernel
theorem dX7_event_35 : decode cX7_event 35 = .ok (.invokestatic 84, 3) := by decide +kernel
theorem dX7_event_38 : decode cX7_event 38 = .ok (.ifCond .eq 29, 3) := by decide +kernel
theorem dX7_event_41 : decode cX7_event 41 = .ok (.iload 5, 2) := by decide +kernel
theorem dX7_event_43 : decode cX7_event 43 = .ok (.iconst (-1), 1) := by decide +kernel
theorem dX7_event_44 : decode cX7_event 44 = .ok (.bipush 9, 2) := by decide +kernel
theorem dX7_event_46 : decode cX7_event 46 = .ok (.invokestatic 84, 3) := by decide +kernel
theorem dX7_event_49 : decode cX7_event 49 = .ok (.ifCond .eq 18, 3) := by decide +kernel
theorem dX7_event_52 : decode cX7_event 52 = .ok (.iload 6, 2) := by decide +kernel
theorem dX7_event_54 : decode cX7_event 54 = .ok (.iconst 0, 1) := by decide +kernel
theorem dX7_event_55 : decode cX7_event 55 = .ok (.ldc 88, 2) := by decide +kernel
theorem dX7_event_57 : decode cX7_event 57 = .ok (.invokestatic 84, 3) := by decide +kernel
theorem dX7_event_60 : decode cX7_event 60 = .ok (.ifCond .eq 7, 3) := by decide +kernel
theorem dX7_event_63 : decode cX7_event 63 = .ok (.iconst 1, 1) := by decide +kernel
theorem dX7_event_64 : decode cX7_event 64 = .ok (.goto 4, 3) := by decide +kernel
theorem dX7_event_67 : decode cX7_event 67 = .ok (.iconst 0, 1) := by decide +kernel
theorem dX7_event_68 : decode cX7_event 68 = .ok (.istore 7, 2) := by decide +kernel
theorem dX7_event_70 : decode cX7_event 70 = .ok (.aload_n 0, 1) := by decide +kernel
theorem dX7_event_71 : decode cX7_event 71 = .ok (.iload 7, 2) := by decide +kernel
theorem dX7_event_73 : decode cX7_event 73 = .ok (.ifCond .eq 7, 3) := by decide +kernel
theorem dX7_event_76 : decode cX7_event 76 = .ok (.iconst 0, 1) := by decide +kernel
theorem dX7_event_77 : decode cX7_event 77 = .ok (.goto 4, 3) := by decide +kernel
theorem dX7_event_80 : decode cX7_event 80 = .ok (.iconst 1, 1) := by decide +kernel
theorem dX7_event_81 : decode cX7_event 81 = .ok (.putfield 81, 3) := by decide +kernel
theorem dX7_event_84 : decode cX7_event 84 = .ok (.aload_n 0, 1) := by decide +kernel
theorem dX7_event_85 : decode cX7_event 85 = .ok (.getfield 81, 3) := by decide +kernel
theorem dX7_event_88 : decode cX7_event 88 = .ok (.ifCond .gt 12, 3) := by decide +kernel
theorem dX7_event_91 : decode cX7_event 91 = .ok (.aload_n 0, 1) := by decide +kernel
theorem dX7_event_92 : decode cX7_event 92 = .ok (.getfield 36, 3) := by decide +kernel
theorem dX7_event_95 : decode cX7_event 95 = .ok (.iload_n 1, 1) := by decide +kernel
theorem dX7_event_96 : decode cX7_event 96 = .ok (.baload, 1) := by decide +kernel
theorem dX7_event_97 : decode cX7_event 97 = .ok (.ifCond .eq 5, 3) := by decide +kernel
theorem dX7_event_100 : decode cX7_event 100 = .ok (.iconst 0, 1) := by decide +kernel
theorem dX7_event_101 : decode cX7_event 101 = .ok (.ireturn, 1) := by decide +kernel
theorem dX7_event_102 : decode cX7_event 102 = .ok (.aload_n 0, 1) := by decide +kernel
theorem dX7_event_103 : decode cX7_event 103 = .ok (.aload_n 0, 1) := by decide +kernel
theorem dX7_event_104 : decode cX7_event 104 = .ok (.getfield 89, 3) := by decide +kernel
theorem dX7_event_107 : decode cX7_event 107 = .ok (.sipush 200, 3) := by decide +kernel
theorem dX7_event_110 : decode cX7_event 110 = .ok (.if_icmp .ne 7, 3) := by decide +kernel
theorem dX7_event_113 : decode cX7_event 113 = .ok (.iconst 2, 1) := by decide +kernel
theorem dX7_event_114 : decode cX7_event 114 = .ok (.goto 4, 3) := by decide +kernel
theorem dX7_event_117 : decode cX7_event 117 = .ok (.iconst 0, 1) := by decide +kernel
theorem dX7_event_118 : decode cX7_event 118 = .ok (.putfield 81, 3) := by decide +kernel
theorem dX7_event_121 : decode cX7_event 121 = .ok (.aload_n 0, 1) := by decide +kernel
theorem dX7_event_122 : decode cX7_event 122 = .ok (.getfield 81, 3) := by decide +kernel
theorem dX7_event_125 : decode cX7_event 125 = .ok (.ifCond .le 5, 3) := by decide +kernel
theorem dX7_event_128 : decode cX7_event 128 = .ok (.iconst 0, 1) := by decide +kernel
theorem dX7_event_129 : decode cX7_event 129 = .ok (.ireturn, 1) := by decide +kernel
theorem dX7_event_130 : decode cX7_event 130 = .ok (.aload_n 0, 1) := by decide +kernel
theorem dX7_event_131 : decode cX7_event 131 = .ok (.getfield 13, 3) := by decide +kernel
theorem dX7_event_134 : decode cX7_event 134 = .ok (.aload_n 0, 1) := by decide +kernel
theorem dX7_event_135 : decode cX7_event 135 = .ok (.getfield 89, 3) := by decide +kernel
theorem dX7_event_138 : decode cX7_event 138 = .ok (.iload_n 1, 1) := by decide +kernel
theorem dX7_event_139 : decode cX7_event 139 = .ok (.iastore, 1) := by decide +kernel
theorem dX7_event_140 : decode cX7_event 140 = .ok (.aload_n 0, 1) := by decide +kernel
theorem dX7_event_141 : decode cX7_event 141 = .ok (.getfield 17, 3) := by decide +kernel
theorem dX7_event_144 : decode cX7_event 144 = .ok (.aload_n 0, 1) := by decide +kernel
theorem dX7_event_145 : decode cX7_event 145 = .ok (.getfield 89, 3) := by decide +kernel
theorem dX7_event_148 : decode cX7_event 148 = .ok (.iload_n 2, 1) := by decide +kernel
theorem dX7_event_149 : decode cX7_event 149 = .ok (.iastore, 1) := by decide +kernel
theorem dX7_event_150 : decode cX7_event 150 = .ok (.aload_n 0, 1) := by decide +kernel
theorem dX7_event_151 : decode cX7_event 151 = .ok (.getfield 20, 3) := by decide +kernel
theorem dX7_event_154 : decode cX7_event 154 = .ok (.aload_n 0, 1) := by decide +kernel
theorem dX7_event_155 : decode cX7_event 155 = .ok (.getfield 89, 3) := by decide +kernel
theorem dX7_event_158 : decode cX7_event 158 = .ok (.iload_n 3, 1) := by decide +kernel
theorem dX7_event_159 : decode cX7_event 159 = .ok (.iastore, 1) := by decide +kernel
theorem dX7_event_160 : decode cX7_event 160 = .ok (.aload_n 0, 1) := by decide +kernel
theorem dX7_event_161 : decode cX7_event 161 = .ok (.getfield 23, 3) := by decide +kernel
theorem dX7_event_164 : decode cX7_event 164 = .ok (.aload_n 0, 1) := by decide +kernel
theorem dX7_event_165 : decode cX7_event 165 = .ok (.getfield 89, 3) := by decide +kernel
theorem dX7_event_168 : decode cX7_event 168 = .ok (.iload 4, 2) := by decide +kernel
theorem dX7_event_170 : decode cX7_event 170 = .ok (.iastore, 1) := by decide +kernel
theorem dX7_event_171 : decode cX7_event 171 = .ok (.aload_n 0, 1) := by decide +kernel
theorem dX7_event_172 : decode cX7_event 172 = .ok (.getfield 26, 3) := by decide +kernel
theorem dX7_event_175 : decode cX7_event 175 = .ok (.aload_n 0, 1) := by decide +kernel
theorem dX7_event_176 : decode cX7_event 176 = .ok (.getfield 89, 3) := by decide +kernel
theorem dX7_event_179 : decode cX7_event 179 = .ok (.iload 5, 2) := by decide +kernel
theorem dX7_event_181 : decode cX7_event 181 = .ok (.iastore, 1) := by decide +kernel
theorem dX7_event_182 : decode cX7_event 182 = .ok (.aload_n 0, 1) := by decide +kernel
theorem dX7_event_183 : decode cX7_event 183 = .ok (.getfield 29, 3) := by decide +kernel
theorem dX7_event_186 : decode cX7_event 186 = .ok (.aload_n 0, 1) := by decide +kernel
theorem dX7_event_187 : decode cX7_event 187 = .ok (.getfield 89, 3) := by decide +kernel
theorem dX7_event_190 : decode cX7_event 190 = .ok (.iload 6, 2) := by decide +kernel
theorem dX7_event_192 : decode cX7_event 192 = .ok (.iastore, 1) := by decide +kernel
theorem dX7_event_193 : decode cX7_event 193 = .ok (.aload_n 0, 1) := by decide +kernel
theorem dX7_event_194 : decode cX7_event 194 = .ok (.dup, 1) := by decide +kernel
theorem dX7_event_195 : decode cX7_event 195 = .ok (.getfield 89, 3) := by decide +kernel
theorem dX7_event_198 : decode cX7_event 198 = .ok (.iconst 1, 1) := by decide +kernel
theorem dX7_event_199 : decode cX7_event 199 = .ok (.iadd, 1) := by decide +kernel
theorem dX7_event_200 : decode cX7_event 200 = .ok (.putfield 89, 3) := by decide +kernel
theorem dX7_event_203 : decode cX7_event 203 = .ok (.aload_n 0, 1) := by decide +kernel
theorem dX7_event_204 : decode cX7_event 204 = .ok (.getfield 36, 3) := by decide +kernel
theorem dX7_event_207 : decode cX7_event 207 = .ok (.iload_n 1, 1) := by decide +kernel
theorem dX7_event_208 : decode cX7_event 208 = .ok (.iconst 1, 1) := by decide +kernel
theorem dX7_event_209 : decode cX7_event 209 = .ok (.bastore, 1) := by decide +kernel
theorem dX7_event_210 : decode cX7_event 210 = .ok (.aload_n 0, 1) := by decide +kernel
theorem dX7_event_211 : decode cX7_event 211 = .ok (.getfield 72, 3) := by decide +kernel
theorem dX7_event_214 : decode cX7_event 214 = .ok (.bipush 10, 2) := by decide +kernel
theorem dX7_event_216 : decode cX7_event 216 = .ok (.iload_n 2, 1) := by decide +kernel
theorem dX7_event_217 : decode cX7_event 217 = .ok (.iadd, 1) := by decide +kernel
theorem dX7_event_218 : decode cX7_event 218 = .ok (.iconst 1, 1) := by decide +kernel
theorem dX7_event_219 : decode cX7_event 219 = .ok (.bastore, 1) := by decide +kernel
theorem dX7_event_220 : decode cX7_event 220 = .ok (.iload_n 3, 1) := by decide +kernel
theorem dX7_event_221 : decode cX7_event 221 = .ok (.iconst (-1), 1) := by decide +kernel
theorem dX7_event_222 : decode cX7_event 222 = .ok (.if_icmp .eq 10, 3) := by decide +kernel
theorem dX7_event_225 : decode cX7_event 225 = .ok (.aload_n 0, 1) := by decide +kernel
theorem dX7_event_226 : decode cX7_event 226 = .ok (.getfield 72, 3) := by decide +kernel
theorem dX7_event_229 : decode cX7_event 229 = .ok (.iload_n 3, 1) := by decide +kernel
theorem dX7_event_230 : decode cX7_event 230 = .ok (.iconst 1, 1) := by decide +kernel
theorem dX7_event_231 : decode cX7_event 231 = .ok (.bastore, 1) := by decide +kernel
theorem dX7_event_232 : decode cX7_event 232 = .ok (.iconst 1, 1) := by decide +kernel
theorem dX7_event_233 : decode cX7_event 233 = .ok (.ireturn, 1) := by decide +kernel
theorem dX7_skew_0 : decode cX7_skew 0 = .ok (.aload_n 0, 1) := by decide +kernel
theorem dX7_skew_1 : decode cX7_skew 1 = .ok (.iload_n 1, 1) := by decide +kernel
theorem dX7_skew_2 : decode cX7_skew 2 = .ok (.iconst 0, 1) := by decide +kernel
theorem dX7_skew_3 : decode cX7_skew 3 = .ok (.bipush 9, 2) := by decide +kernel
theorem dX7_skew_5 : decode cX7_skew 5 = .ok (.invokestatic 84, 3) := by decide +kernel
theorem dX7_skew_8 : decode cX7_skew 8 = .ok (.ifCond .eq 20, 3) := by decide +kernel
theorem dX7_skew_11 : decode cX7_skew 11 = .ok (.iload_n 2, 1) := by decide +kernel
theorem dX7_skew_12 : decode cX7_skew 12 = .ok (.sipush (-600), 3) := by decide +kernel
theorem dX7_skew_15 : decode cX7_skew 15 = .ok (.sipush 600, 3) := by decide +kernel
theorem dX7_skew_18 : decode cX7_skew 18 = .ok (.invokestatic 84, 3) := by decide +kernel
theorem dX7_skew_21 : decode cX7_skew 21 = .ok (.ifCond .eq 7, 3) := by decide +kernel
theorem dX7_skew_24 : decode cX7_skew 24 = .ok (.iconst 0, 1) := by decide +kernel
theorem dX7_skew_25 : decode cX7_skew 25 = .ok (.goto 4, 3) := by decide +kernel
theorem dX7_skew_28 : decode cX7_skew 28 = .ok (.iconst 1, 1) := by decide +kernel
theorem dX7_skew_29 : decode cX7_skew 29 = .ok (.putfield 81, 3) := by decide +kernel
theorem dX7_skew_32 : decode cX7_skew 32 = .ok (.aload_n 0, 1) := by decide +kernel
theorem dX7_skew_33 : decode cX7_skew 33 = .ok (.getfield 81, 3) := by decide +kernel
theorem dX7_skew_36 : decode cX7_skew 36 = .ok (.ifCond .le 5, 3) := by decide +kernel
theorem dX7_skew_39 : decode cX7_skew 39 = .ok (.iconst 0, 1) := by decide +kernel
theorem dX7_skew_40 : decode cX7_skew 40 = .ok (.ireturn, 1) := by decide +kernel
theorem dX7_skew_41 : decode cX7_skew 41 = .ok (.aload_n 0, 1) := by decide +kernel
theorem dX7_skew_42 : decode cX7_skew 42 = .ok (.getfield 39, 3) := by decide +kernel
theorem dX7_skew_45 : decode cX7_skew 45 = .ok (.iload_n 1, 1) := by decide +kernel
theorem dX7_skew_46 : decode cX7_skew 46 = .ok (.iaload, 1) := by decide +kernel
theorem dX7_skew_47 : decode cX7_skew 47 = .ok (.istore_n 3, 1) := by decide +kernel
theorem dX7_skew_48 : decode cX7_skew 48 = .ok (.aload_n 0, 1) := by decide +kernel
theorem dX7_skew_49 : decode cX7_skew 49 = .ok (.getfield 39, 3) := by decide +kernel
theorem dX7_skew_52 : decode cX7_skew 52 = .ok (.iload_n 1, 1) := by decide +kernel
theorem dX7_skew_53 : decode cX7_skew 53 = .ok (.iload_n 2, 1) := by decide +kernel
theorem dX7_skew_54 : decode cX7_skew 54 = .ok (.iastore, 1) := by decide +kernel
theorem dX7_skew_55 : decode cX7_skew 55 = .ok (.iload_n 3, 1) := by decide +kernel
theorem dX7_skew_56 : decode cX7_skew 56 = .ok (.ireturn, 1) := by decide +kernel
theorem dX7_share_0 : decode cX7_share 0 = .ok (.aload_n 0, 1) := by decide +kernel
theorem dX7_share_1 : decode cX7_share 1 = .ok (.iload_n 1, 1) := by decide +kernel
theorem dX7_share_2 : decode cX7_share 2 = .ok (.iconst 0, 1) := by decide +kernel
theorem dX7_share_3 : decode cX7_share 3 = .ok (.bipush 9, 2) := by decide +kernel
theorem dX7_share_5 : decode cX7_share 5 = .ok (.invokestatic 84, 3) := by decide +kernel
theorem dX7_share_8 : decode cX7_share 8 = .ok (.ifCond .eq 7, 3) := by decide +kernel
theorem dX7_share_11 : decode cX7_share 11 = .ok (.iconst 0, 1) := by decide +kernel
theorem dX7_share_12 : decode cX7_share 12 = .ok (.goto 4, 3) := by decide +kernel
theorem dX7_share_15 : decode cX7_share 15 = .ok (.iconst 1, 1) := by decide +kernel
theorem dX7_share_16 : decode cX7_share 16 = .ok (.putfield 81, 3) := by decide +kernel
theorem dX7_share_19 : decode cX7_share 19 = .ok (.aload_n 0, 1) := by decide +kernel
theorem dX7_share_20 : decode cX7_share 20 = .ok (.getfield 81, 3) := by decide +kernel
theorem dX7_share_23 : decode cX7_share 23 = .ok (.ifCond .le 5, 3) := by decide +kernel
theorem dX7_share_26 : decode cX7_share 26 = .ok (.iconst 0, 1) := by decide +kernel
theorem dX7_share_27 : decode cX7_share 27 = .ok (.ireturn, 1) := by decide +kernel
theorem dX7_share_28 : decode cX7_share 28 = .ok (.aload_n 0, 1) := by decide +kernel
theorem dX7_share_29 : decode cX7_share 29 = .ok (.getfield 42, 3) := by decide +kernel
theorem dX7_share_32 : decode cX7_share 32 = .ok (.iload_n 1, 1) := by decide +kernel
theorem dX7_share_33 : decode cX7_share 33 = .ok (.baload, 1) := by decide +kernel
theorem dX7_share_34 : decode cX7_share 34 = .ok (.istore_n 3, 1) := by decide +kernel
theorem dX7_share_35 : decode cX7_share 35 = .ok (.aload_n 0, 1) := by decide +kernel
theorem dX7_share_36 : decode cX7_share 36 = .ok (.getfield 42, 3) := by decide +kernel
theorem dX7_share_39 : decode cX7_share 39 = .ok (.iload_n 1, 1) := by decide +kernel
theorem dX7_share_40 : decode cX7_share 40 = .ok (.iload_n 2, 1) := by decide +kernel
theorem dX7_share_41 : decode cX7_share 41 = .ok (.bastore, 1) := by decide +kernel
theorem dX7_share_42 : decode cX7_share 42 = .ok (.iload_n 3, 1) := by decide +kernel
theorem dX7_share_43 : decode cX7_share 43 = .ok (.ireturn, 1) := by decide +kernel
theorem dX7_link_0 : decode cX7_link 0 = .ok (.aload_n 0, 1) := by decide +kernel
theorem dX7_link_1 : decode cX7_link 1 = .ok (.iload_n 1, 1) := by decide +kernel
theorem dX7_link_2 : decode cX7_link 2 = .ok (.iconst 0, 1) := by decide +kernel
theorem dX7_link_3 : decode cX7_link 3 = .ok (.bipush 9, 2) := by decide +kernel
theorem dX7_link_5 : decode cX7_link 5 = .ok (.invokestatic 84, 3) := by decide +kernel
theorem dX7_link_8 : decode cX7_link 8 = .ok (.ifCond .eq 17, 3) := by decide +kernel
theorem dX7_link_11 : decode cX7_link 11 = .ok (.iload_n 2, 1) := by decide +kernel
theorem dX7_link_12 : decode cX7_link 12 = .ok (.iconst 0, 1) := by decide +kernel
theorem dX7_link_13 : decode cX7_link 13 = .ok (.bipush 9, 2) := by decide +kernel
theorem dX7_link_15 : decode cX7_link 15 = .ok (.invokestatic 84, 3) := by decide +kernel
theorem dX7_link_18 : decode cX7_link 18 = .ok (.ifCond .eq 7, 3) := by decide +kernel
theorem dX7_link_21 : decode cX7_link 21 = .ok (.iconst 0, 1) := by decide +kernel
theorem dX7_link_22 : decode cX7_link 22 = .ok (.goto 4, 3) := by decide +kernel
theorem dX7_link_25 : decode cX7_link 25 = .ok (.iconst 1, 1) := by decide +kernel
theorem dX7_link_26 : decode cX7_link 26 = .ok (.putfield 81, 3) := by decide +kernel
theorem dX7_link_29 : decode cX7_link 29 = .ok (.aload_n 0, 1) := by decide +kernel
theorem dX7_link_30 : decode cX7_link 30 = .ok (.getfield 81, 3) := by decide +kernel
theorem dX7_link_33 : decode cX7_link 33 = .ok (.ifCond .le 5, 3) := by decide +kernel
theorem dX7_link_36 : decode cX7_link 36 = .ok (.iconst 0, 1) := by decide +kernel
theorem dX7_link_37 : decode cX7_link 37 = .ok (.ireturn, 1) := by decide +kernel
theorem dX7_link_38 : decode cX7_link 38 = .ok (.aload_n 0, 1) := by decide +kernel
theorem dX7_link_39 : decode cX7_link 39 = .ok (.getfield 45, 3) := by decide +kernel
theorem dX7_link_42 : decode cX7_link 42 = .ok (.bipush 10, 2) := by decide +kernel
theorem dX7_link_44 : decode cX7_link 44 = .ok (.iload_n 1, 1) := by decide +kernel
theorem dX7_link_45 : decode cX7_link 45 = .ok (.imul, 1) := by decide +kernel
theorem dX7_link_46 : decode cX7_link 46 = .ok (.iload_n 2, 1) := by decide +kernel
theorem dX7_link_47 : decode cX7_link 47 = .ok (.iadd, 1) := by decide +kernel
theorem dX7_link_48 : decode cX7_link 48 = .ok (.baload, 1) := by decide +kernel
theorem dX7_link_49 : decode cX7_link 49 = .ok (.ifCond .ne 7, 3) := by decide +kernel
theorem dX7_link_52 : decode cX7_link 52 = .ok (.iconst 1, 1) := by decide +kernel
theorem dX7_link_53 : decode cX7_link 53 = .ok (.goto 4, 3) := by decide +kernel
theorem dX7_link_56 : decode cX7_link 56 = .ok (.iconst 0, 1) := by decide +kernel
theorem dX7_link_57 : decode cX7_link 57 = .ok (.istore 4, 2) := by decide +kernel
theorem dX7_link_59 : decode cX7_link 59 = .ok (.aload_n 0, 1) := by decide +kernel
theorem dX7_link_60 : decode cX7_link 60 = .ok (.getfield 45, 3) := by decide +kernel
theorem dX7_link_63 : decode cX7_link 63 = .ok (.bipush 10, 2) := by decide +kernel
theorem dX7_link_65 : decode cX7_link 65 = .ok (.iload_n 1, 1) := by decide +kernel
theorem dX7_link_66 : decode cX7_link 66 = .ok (.imul, 1) := by decide +kernel
theorem dX7_link_67 : decode cX7_link 67 = .ok (.iload_n 2, 1) := by decide +kernel
theorem dX7_link_68 : decode cX7_link 68 = .ok (.iadd, 1) := by decide +kernel
theorem dX7_link_69 : decode cX7_link 69 = .ok (.iload_n 3, 1) := by decide +kernel
theorem dX7_link_70 : decode cX7_link 70 = .ok (.ifCond .ne 7, 3) := by decide +kernel
theorem dX7_link_73 : decode cX7_link 73 = .ok (.iconst 1, 1) := by decide +kernel
theorem dX7_link_74 : decode cX7_link 74 = .ok (.goto 4, 3) := by decide +kernel
theorem dX7_link_77 : decode cX7_link 77 = .ok (.iconst 0, 1) := by decide +kernel
theorem dX7_link_78 : decode cX7_link 78 = .ok (.bastore, 1) := by decide +kernel
theorem dX7_link_79 : decode cX7_link 79 = .ok (.iload 4, 2) := by decide +kernel
theorem dX7_link_81 : decode cX7_link 81 = .ok (.ireturn, 1) := by decide +kernel
theorem dX7_links_0 : decode cX7_links 0 = .ok (.aload_n 0, 1) := by decide +kernel
theorem dX7_links_1 : decode cX7_links 1 = .ok (.getfield 32, 3) := by decide +kernel
theorem dX7_links_4 : decode cX7_links 4 = .ok (.iload_n 1, 1) := by decide +kernel
theorem dX7_links_5 : decode cX7_links 5 = .ok (.baload, 1) := by decide +kernel
theorem dX7_links_6 : decode cX7_links 6 = .ok (.ifCond .ne 55, 3) := by decide +kernel
theorem dX7_links_9 : decode cX7_links 9 = .ok (.aload_n 0, 1) := by decide +kernel
theorem dX7_links_10 : decode cX7_links 10 = .ok (.getfield 20, 3) := by decide +kernel
theorem dX7_links_13 : decode cX7_links 13 = .ok (.iload_n 1, 1) := by decide +kernel
theorem dX7_links_14 : decode cX7_links 14 = .ok (.iaload, 1) := by decide +kernel
theorem dX7_links_15 : decode cX7_links 15 = .ok (.iconst (-1), 1) := by decide +kernel
theorem dX7_links_16 : decode cX7_links 16 = .ok (.if_icmp .eq 45, 3) := by decide +kernel
theorem dX7_links_19 : decode cX7_links 19 = .ok (.aload_n 0, 1) := by decide +kernel
theorem dX7_links_20 : decode cX7_links 20 = .ok (.getfield 42, 3) := by decide +kernel
theorem dX7_links_23 : decode cX7_links 23 = .ok (.aload_n 0, 1) := by decide +kernel
theorem dX7_links_24 : decode cX7_links 24 = .ok (.getfield 17, 3) := by decide +kernel
theorem dX7_links_27 : decode cX7_links 27 = .ok (.iload_n 1, 1) := by decide +kernel
theorem dX7_links_28 : decode cX7_links 28 = .ok (.iaload, 1) := by decide +kernel
theorem dX7_links_29 : decode cX7_links 29 = .ok (.baload, 1) := by decide +kernel
theorem dX7_links_30 : decode cX7_links 30 = .ok (.ifCond .ne 31, 3) := by decide +kernel
theorem dX7_links_33 : decode cX7_links 33 = .ok (.aload_n 0, 1) := by decide +kernel
theorem dX7_links_34 : decode cX7_links 34 = .ok (.getfield 45, 3) := by decide +kernel
theorem dX7_links_37 : decode cX7_links 37 = .ok (.bipush 10, 2) := by decide +kernel
theorem dX7_links_39 : decode cX7_links 39 = .ok (.aload_n 0, 1) := by decide +kernel
theorem dX7_links_40 : decode cX7_links 40 = .ok (.getfield 17, 3) := by decide +kernel
theorem dX7_links_43 : decode cX7_links 43 = .ok (.iload_n 1, 1) := by decide +kernel
theorem dX7_links_44 : decode cX7_links 44 = .ok (.iaload, 1) := by decide +kernel
theorem dX7_links_45 : decode cX7_links 45 = .ok (.imul, 1) := by decide +kernel
theorem dX7_links_46 : decode cX7_links 46 = .ok (.aload_n 0, 1) := by decide +kernel
theorem dX7_links_47 : decode cX7_links 47 = .ok (.getfield 20, 3) := by decide +kernel
theorem dX7_links_50 : decode cX7_links 50 = .ok (.iload_n 1, 1) := by decide +kernel
theorem dX7_links_51 : decode cX7_links 51 = .ok (.iaload, 1) := by decide +kernel
theorem dX7_links_52 : decode cX7_links 52 = .ok (.iadd, 1) := by decide +kernel
theorem dX7_links_53 : decode cX7_links 53 = .ok (.baload, 1) := by decide +kernel
theorem dX7_links_54 : decode cX7_links 54 = .ok (.ifCond .ne 7, 3) := by decide +kernel
theorem dX7_links_57 : decode cX7_links 57 = .ok (.iconst 1, 1) := by decide +kernel
theorem dX7_links_58 : decode cX7_links 58 = .ok (.goto 4, 3) := by decide +kernel
theorem dX7_links_61 : decode cX7_links 61 = .ok (.iconst 0, 1) := by decide +kernel
theorem dX7_links_62 : decode cX7_links 62 = .ok (.ireturn, 1) := by decide +kernel
theorem dX7_finds_0 : decode cX7_finds 0 = .ok (.iconst 0, 1) := by decide +kernel
theorem dX7_finds_1 : decode cX7_finds 1 = .ok (.istore_n 1, 1) := by decide +kernel
theorem dX7_finds_2 : decode cX7_finds 2 = .ok (.iload_n 1, 1) := by decide +kernel
theorem dX7_finds_3 : decode cX7_finds 3 = .ok (.bipush 20, 2) := by decide +kernel
theorem dX7_finds_5 : decode cX7_finds 5 = .ok (.if_icmp .ge 16, 3) := by decide +kernel
theorem dX7_finds_8 : decode cX7_finds 8 = .ok (.aload_n 0, 1) := by decide +kernel
theorem dX7_finds_9 : decode cX7_finds 9 = .ok (.getfield 78, 3) := by decide +kernel
theorem dX7_finds_12 : decode cX7_finds 12 = .ok (.iload_n 1, 1) := by decide +kernel
theorem dX7_finds_13 : decode cX7_finds 13 = .ok (.iload_n 1, 1) := by decide +kernel
theorem dX7_finds_14 : decode cX7_finds 14 = .ok (.iastore, 1) := by decide +kernel
theorem dX7_finds_15 : decode cX7_finds 15 = .ok (.iinc 1 1, 3) := by decide +kernel
theorem dX7_finds_18 : decode cX7_finds 18 = .ok (.goto (-16), 3) := by decide +kernel
theorem dX7_finds_21 : decode cX7_finds 21 = .ok (.iconst 1, 1) := by decide +kernel
theorem dX7_finds_22 : decode cX7_finds 22 = .ok (.istore_n 1, 1) := by decide +kernel
theorem dX7_finds_23 : decode cX7_finds 23 = .ok (.iload_n 1, 1) := by decide +kernel
theorem dX7_finds_24 : decode cX7_finds 24 = .ok (.ifCond .eq 119, 3) := by decide +kernel
theorem dX7_finds_27 : decode cX7_finds 27 = .ok (.iconst 0, 1) := by decide +kernel
theorem dX7_finds_28 : decode cX7_finds 28 = .ok (.istore_n 1, 1) := by decide +kernel
theorem dX7_finds_29 : decode cX7_finds 29 = .ok (.iconst 0, 1) := by decide +kernel
theorem dX7_finds_30 : decode cX7_finds 30 = .ok (.istore_n 2, 1) := by decide +kernel
theorem dX7_finds_31 : decode cX7_finds 31 = .ok (.iload_n 2, 1) := by decide +kernel
theorem dX7_finds_32 : decode cX7_finds 32 = .ok (.aload_n 0, 1) := by decide +kernel
theorem dX7_finds_33 : decode cX7_finds 33 = .ok (.getfield 89, 3) := by decide +kernel
theorem dX7_finds_36 : decode cX7_finds 36 = .ok (.if_icmp .ge 104, 3) := by decide +kernel
theorem dX7_finds_39 : decode cX7_finds 39 = .ok (.bipush 10, 2) := by decide +kernel
theorem dX7_finds_41 : decode cX7_finds 41 = .ok (.aload_n 0, 1) := by decide +kernel
theorem dX7_finds_42 : decode cX7_finds 42 = .ok (.getfield 17, 3) := by decide +kernel
theorem dX7_finds_45 : decode cX7_finds 45 = .ok (.iload_n 2, 1) := by decide +kernel
theorem dX7_finds_46 : decode cX7_finds 46 = .ok (.iaload, 1) := by decide +kernel
theorem dX7_finds_47 : decode cX7_finds 47 = .ok (.iadd, 1) := by decide +kernel
theorem dX7_finds_48 : decode cX7_finds 48 = .ok (.istore_n 3, 1) := by decide +kernel
theorem dX7_finds_49 : decode cX7_finds 49 = .ok (.aload_n 0, 1) := by decide +kernel
theorem dX7_finds_50 : decode cX7_finds 50 = .ok (.getfield 20, 3) := by decide +kernel
theorem dX7_finds_53 : decode cX7_finds 53 = .ok (.iload_n 2, 1) := by decide +kernel
theorem dX7_finds_54 : decode cX7_finds 54 = .ok (.iaload, 1) := by decide +kernel
theorem dX7_finds_55 : decode cX7_finds 55 = .ok (.istore 4, 2) := by decide +kernel
theorem dX7_finds_57 : decode cX7_finds 57 = .ok (.aload_n 0, 1) := by decide +kernel
theorem dX7_finds_58 : decode cX7_finds 58 = .ok (.iload_n 2, 1) := by decide +kernel
theorem dX7_finds_59 : decode cX7_finds 59 = .ok (.invokevirtual 92, 3) := by decide +kernel
theorem dX7_finds_62 : decode cX7_finds 62 = .ok (.ifCond .eq 72, 3) := by decide +kernel
theorem dX7_finds_65 : decode cX7_finds 65 = .ok (.aload_n 0, 1) := by decide +kernel
theorem dX7_finds_66 : decode cX7_finds 66 = .ok (.getfield 78, 3) := by decide +kernel
theorem dX7_finds_69 : decode cX7_finds 69 = .ok (.iload_n 3, 1) := by decide +kernel
theorem dX7_finds_70 : decode cX7_finds 70 = .ok (.iaload, 1) := by decide +kernel
theorem dX7_finds_71 : decode cX7_finds 71 = .ok (.aload_n 0, 1) := by decide +kernel
theorem dX7_finds_72 : decode cX7_finds 72 = .ok (.getfield 78, 3) := by decide +kernel
theorem dX7_finds_75 : decode cX7_finds 75 = .ok (.iload 4, 2) := by decide +kernel
theorem dX7_finds_77 : decode cX7_finds 77 = .ok (.iaload, 1) := by decide +kernel
theorem dX7_finds_78 : decode cX7_finds 78 = .ok (.if_icmp .eq 56, 3) := by decide +kernel
theorem dX7_finds_81 : decode cX7_finds 81 = .ok (.aload_n 0, 1) := by decide +kernel
theorem dX7_finds_82 : decode cX7_finds 82 = .ok (.getfield 78, 3) := by decide +kernel
theorem dX7_finds_85 : decode cX7_finds 85 = .ok (.iload_n 3, 1) := by decide +kernel
theorem dX7_finds_86 : decode cX7_finds 86 = .ok (.iaload, 1) := by decide +kernel
theorem dX7_finds_87 : decode cX7_finds 87 = .ok (.aload_n 0, 1) := by decide +kernel
theorem dX7_finds_88 : decode cX7_finds 88 = .ok (.getfield 78, 3) := by decide +kernel
theorem dX7_finds_91 : decode cX7_finds 91 = .ok (.iload 4, 2) := by decide +kernel
theorem dX7_finds_93 : decode cX7_finds 93 = .ok (.iaload, 1) := by decide +kernel
theorem dX7_finds_94 : decode cX7_finds 94 = .ok (.if_icmp .ge 12, 3) := by decide +kernel
theorem dX7_finds_97 : decode cX7_finds 97 = .ok (.aload_n 0, 1) := by decide +kernel
theorem dX7_finds_98 : decode cX7_finds 98 = .ok (.getfield 78, 3) := by decide +kernel
theorem dX7_finds_101 : decode cX7_finds 101 = .ok (.iload_n 3, 1) := by decide +kernel
theorem dX7_finds_102 : decode cX7_finds 102 = .ok (.iaload, 1) := by decide +kernel
theorem dX7_finds_103 : decode cX7_finds 103 = .ok (.goto 10, 3) := by decide +kernel
theorem dX7_finds_106 : decode cX7_finds 106 = .ok (.aload_n 0, 1) := by decide +kernel
theorem dX7_finds_107 : decode cX7_finds 107 = .ok (.getfield 78, 3) := by decide +kernel
theorem dX7_finds_110 : decode cX7_finds 110 = .ok (.iload 4, 2) := by decide +kernel
theorem dX7_finds_112 : decode cX7_finds 112 = .ok (.iaload, 1) := by decide +kernel
theorem dX7_finds_113 : decode cX7_finds 113 = .ok (.istore 5, 2) := by decide +kernel
theorem dX7_finds_115 : decode cX7_finds 115 = .ok (.aload_n 0, 1) := by decide +kernel
theorem dX7_finds_116 : decode cX7_finds 116 = .ok (.getfield 78, 3) := by decide +kernel
theorem dX7_finds_119 : decode cX7_finds 119 = .ok (.iload_n 3, 1) := by decide +kernel
theorem dX7_finds_120 : decode cX7_finds 120 = .ok (.iload 5, 2) := by decide +kernel
theorem dX7_finds_122 : decode cX7_finds 122 = .ok (.iastore, 1) := by decide +kernel
theorem dX7_finds_123 : decode cX7_finds 123 = .ok (.aload_n 0, 1) := by decide +kernel
theorem dX7_finds_124 : decode cX7_finds 124 = .ok (.getfield 78, 3) := by decide +kernel
theorem dX7_finds_127 : decode cX7_finds 127 = .ok (.iload 4, 2) := by decide +kernel
theorem dX7_finds_129 : decode cX7_finds 129 = .ok (.iload 5, 2) := by decide +kernel
theorem dX7_finds_131 : decode cX7_finds 131 = .ok (.iastore, 1) := by decide +kernel
theorem dX7_finds_132 : decode cX7_finds 132 = .ok (.iconst 1, 1) := by decide +kernel
theorem dX7_finds_133 : decode cX7_finds 133 = .ok (.istore_n 1, 1) := by decide +kernel
theorem dX7_finds_134 : decode cX7_finds 134 = .ok (.iinc 2 1, 3) := by decide +kernel
theorem dX7_finds_137 : decode cX7_finds 137 = .ok (.goto (-106), 3) := by decide +kernel
theorem dX7_finds_140 : decode cX7_finds 140 = .ok (.goto (-117), 3) := by decide +kernel
theorem dX7_finds_143 : decode cX7_finds 143 = .ok (.return_, 1) := by decide +kernel
theorem dX7_nodeOf_0 : decode cX7_nodeOf 0 = .ok (.aload_n 0, 1) := by decide +kernel
theorem dX7_nodeOf_1 : decode cX7_nodeOf 1 = .ok (.getfield 42, 3) := by decide +kernel
theorem dX7_nodeOf_4 : decode cX7_nodeOf 4 = .ok (.aload_n 0, 1) := by decide +kernel
theorem dX7_nodeOf_5 : decode cX7_nodeOf 5 = .ok (.getfield 17, 3) := by decide +kernel
theorem dX7_nodeOf_8 : decode cX7_nodeOf 8 = .ok (.iload_n 1, 1) := by decide +kernel
theorem dX7_nodeOf_9 : decode cX7_nodeOf 9 = .ok (.iaload, 1) := by decide +kernel
theorem dX7_nodeOf_10 : decode cX7_nodeOf 10 = .ok (.baload, 1) := by decide +kernel
theorem dX7_nodeOf_11 : decode cX7_nodeOf 11 = .ok (.ifCond .eq 22, 3) := by decide +kernel
theorem dX7_nodeOf_14 : decode cX7_nodeOf 14 = .ok (.aload_n 0, 1) := by decide +kernel
theorem dX7_nodeOf_15 : decode cX7_nodeOf 15 = .ok (.getfield 20, 3) := by decide +kernel
theorem dX7_nodeOf_18 : decode cX7_nodeOf 18 = .ok (.iload_n 1, 1) := by decide +kernel
theorem dX7_nodeOf_19 : decode cX7_nodeOf 19 = .ok (.iaload, 1) := by decide +kernel
theorem dX7_nodeOf_20 : decode cX7_nodeOf 20 = .ok (.iconst (-1), 1) := by decide +kernel
theorem dX7_nodeOf_21 : decode cX7_nodeOf 21 = .ok (.if_icmp .eq 12, 3) := by decide +kernel
theorem dX7_nodeOf_24 : decode cX7_nodeOf 24 = .ok (.aload_n 0, 1) := by decide +kernel
theorem dX7_nodeOf_25 : decode cX7_nodeOf 25 = .ok (.getfield 20, 3) := by decide +kernel
theorem dX7_nodeOf_28 : decode cX7_nodeOf 28 = .ok (.iload_n 1, 1) := by decide +kernel
theorem dX7_nodeOf_29 : decode cX7_nodeOf 29 = .ok (.iaload, 1) := by decide +kernel
theorem dX7_nodeOf_30 : decode cX7_nodeOf 30 = .ok (.goto 12, 3) := by decide +kernel
theorem dX7_nodeOf_33 : decode cX7_nodeOf 33 = .ok (.bipush 10, 2) := by decide +kernel
theorem dX7_nodeOf_35 : decode cX7_nodeOf 35 = .ok (.aload_n 0, 1) := by decide +kernel
theorem dX7_nodeOf_36 : decode cX7_nodeOf 36 = .ok (.getfield 17, 3) := by decide +kernel
theorem dX7_nodeOf_39 : decode cX7_nodeOf 39 = .ok (.iload_n 1, 1) := by decide +kernel
theorem dX7_nodeOf_40 : decode cX7_nodeOf 40 = .ok (.iaload, 1) := by decide +kernel
theorem dX7_nodeOf_41 : decode cX7_nodeOf 41 = .ok (.iadd, 1) := by decide +kernel
theorem dX7_nodeOf_42 : decode cX7_nodeOf 42 = .ok (.ireturn, 1) := by decide +kernel
theorem dX7_belongs_0 : decode cX7_belongs 0 = .ok (.aload_n 0, 1) := by decide +kernel
theorem dX7_belongs_1 : decode cX7_belongs 1 = .ok (.getfield 32, 3) := by decide +kernel
theorem dX7_belongs_4 : decode cX7_belongs 4 = .ok (.iload_n 1, 1) := by decide +kernel
theorem dX7_belongs_5 : decode cX7_belongs 5 = .ok (.baload, 1) := by decide +kernel
theorem dX7_belongs_6 : decode cX7_belongs 6 = .ok (.ifCond .ne 26, 3) := by decide +kernel
theorem dX7_belongs_9 : decode cX7_belongs 9 = .ok (.aload_n 0, 1) := by decide +kernel
theorem dX7_belongs_10 : decode cX7_belongs 10 = .ok (.getfield 78, 3) := by decide +kernel
theorem dX7_belongs_13 : decode cX7_belongs 13 = .ok (.aload_n 0, 1) := by decide +kernel
theorem dX7_belongs_14 : decode cX7_belongs 14 = .ok (.iload_n 1, 1) := by decide +kernel
theorem dX7_belongs_15 : decode cX7_belongs 15 = .ok (.invokevirtual 96, 3) := by decide +kernel
theorem dX7_belongs_18 : decode cX7_belongs 18 = .ok (.iaload, 1) := by decide +kernel
theorem dX7_belongs_19 : decode cX7_belongs 19 = .ok (.aload_n 0, 1) := by decide +kernel
theorem dX7_belongs_20 : decode cX7_belongs 20 = .ok (.getfield 78, 3) := by decide +kernel
theorem dX7_belongs_23 : decode cX7_belongs 23 = .ok (.iload_n 2, 1) := by decide +kernel
theorem dX7_belongs_24 : decode cX7_belongs 24 = .ok (.iaload, 1) := by decide +kernel
theorem dX7_belongs_25 : decode cX7_belongs 25 = .ok (.if_icmp .ne 7, 3) := by decide +kernel
theorem dX7_belongs_28 : decode cX7_belongs 28 = .ok (.iconst 1, 1) := by decide +kernel
theorem dX7_belongs_29 : decode cX7_belongs 29 = .ok (.goto 4, 3) := by decide +kernel
theorem dX7_belongs_32 : decode cX7_belongs 32 = .ok (.iconst 0, 1) := by decide +kernel
theorem dX7_belongs_33 : decode cX7_belongs 33 = .ok (.ireturn, 1) := by decide +kernel
theorem dX7_isNode_0 : decode cX7_isNode 0 = .ok (.iload_n 1, 1) := by decide +kernel
theorem dX7_isNode_1 : decode cX7_isNode 1 = .ok (.iconst 0, 1) := by decide +kernel
theorem dX7_isNode_2 : decode cX7_isNode 2 = .ok (.bipush 19, 2) := by decide +kernel
theorem dX7_isNode_4 : decode cX7_isNode 4 = .ok (.invokestatic 84, 3) := by decide +kernel
theorem dX7_isNode_7 : decode cX7_isNode 7 = .ok (.ireturn, 1) := by decide +kernel
theorem dX7_profile_0 : decode cX7_profile 0 = .ok (.aload_n 0, 1) := by decide +kernel
theorem dX7_profile_1 : decode cX7_profile 1 = .ok (.aload_n 0, 1) := by decide +kernel
theorem dX7_profile_2 : decode cX7_profile 2 = .ok (.iload_n 1, 1) := by decide +kernel
theorem dX7_profile_3 : decode cX7_profile 3 = .ok (.invokevirtual 100, 3) := by decide +kernel
theorem dX7_profile_6 : decode cX7_profile 6 = .ok (.ifCond .eq 7, 3) := by decide +kernel
theorem dX7_profile_9 : decode cX7_profile 9 = .ok (.iconst 0, 1) := by decide +kernel
theorem dX7_profile_10 : decode cX7_profile 10 = .ok (.goto 4, 3) := by decide +kernel
theorem dX7_profile_13 : decode cX7_profile 13 = .ok (.iconst 1, 1) := by decide +kernel
theorem dX7_profile_14 : decode cX7_profile 14 = .ok (.putfield 81, 3) := by decide +kernel
theorem dX7_profile_17 : decode cX7_profile 17 = .ok (.aload_n 0, 1) := by decide +kernel
theorem dX7_profile_18 : decode cX7_profile 18 = .ok (.getfield 81, 3) := by decide +kernel
theorem dX7_profile_21 : decode cX7_profile 21 = .ok (.ifCond .le 5, 3) := by decide +kernel
theorem dX7_profile_24 : decode cX7_profile 24 = .ok (.iconst 0, 1) := by decide +kernel
theorem dX7_profile_25 : decode cX7_profile 25 = .ok (.ireturn, 1) := by decide +kernel
theorem dX7_profile_26 : decode cX7_profile 26 = .ok (.aload_n 0, 1) := by decide +kernel
theorem dX7_profile_27 : decode cX7_profile 27 = .ok (.invokevirtual 103, 3) := by decide +kernel
theorem dX7_profile_30 : decode cX7_profile 30 = .ok (.aload_n 0, 1) := by decide +kernel
theorem dX7_profile_31 : decode cX7_profile 31 = .ok (.getfield 78, 3) := by decide +kernel
theorem dX7_profile_34 : decode cX7_profile 34 = .ok (.iload_n 1, 1) := by decide +kernel
theorem dX7_profile_35 : decode cX7_profile 35 = .ok (.iaload, 1) := by decide +kernel
theorem dX7_profile_36 : decode cX7_profile 36 = .ok (.ireturn, 1) := by decide +kernel
theorem dX7_profileAnew_0 : decode cX7_profileAnew 0 = .ok (.aload_n 0, 1) := by decide +kernel
theorem dX7_profileAnew_1 : decode cX7_profileAnew 1 = .ok (.iload_n 1, 1) := by decide +kernel
theorem dX7_profileAnew_2 : decode cX7_profileAnew 2 = .ok (.invokevirtual 106, 3) := by decide +kernel
theorem dX7_profileAnew_5 : decode cX7_profileAnew 5 = .ok (.ireturn, 1) := by decide +kernel
theorem dX7_isAhead_0 : decode cX7_isAhead 0 = .ok (.aload_n 0, 1) := by decide +kernel
theorem dX7_isAhead_1 : decode cX7_isAhead 1 = .ok (.iload_n 1, 1) := by decide +kernel
theorem dX7_isAhead_2 : decode cX7_isAhead 2 = .ok (.invokevirtual 109, 3) := by decide +kernel
theorem dX7_isAhead_5 : decode cX7_isAhead 5 = .ok (.aload_n 0, 1) := by decide +kernel
theorem dX7_isAhead_6 : decode cX7_isAhead 6 = .ok (.iload_n 2, 1) := by decide +kernel
theorem dX7_isAhead_7 : decode cX7_isAhead 7 = .ok (.invokevirtual 109, 3) := by decide +kernel
theorem dX7_isAhead_10 : decode cX7_isAhead 10 = .ok (.if_icmp .lt 21, 3) := by decide +kernel
theorem dX7_isAhead_13 : decode cX7_isAhead 13 = .ok (.aload_n 0, 1) := by decide +kernel
theorem dX7_isAhead_14 : decode cX7_isAhead 14 = .ok (.iload_n 1, 1) := by decide +kernel
theorem dX7_isAhead_15 : decode cX7_isAhead 15 = .ok (.invokevirtual 109, 3) := by decide +kernel
theorem dX7_isAhead_18 : decode cX7_isAhead 18 = .ok (.aload_n 0, 1) := by decide +kernel
theorem dX7_isAhead_19 : decode cX7_isAhead 19 = .ok (.iload_n 2, 1) := by decide +kernel
theorem dX7_isAhead_20 : decode cX7_isAhead 20 = .ok (.invokevirtual 109, 3) := by decide +kernel
theorem dX7_isAhead_23 : decode cX7_isAhead 23 = .ok (.if_icmp .ne 12, 3) := by decide +kernel
theorem dX7_isAhead_26 : decode cX7_isAhead 26 = .ok (.iload_n 1, 1) := by decide +kernel
theorem dX7_isAhead_27 : decode cX7_isAhead 27 = .ok (.iload_n 2, 1) := by decide +kernel
theorem dX7_isAhead_28 : decode cX7_isAhead 28 = .ok (.if_icmp .ge 7, 3) := by decide +kernel
theorem dX7_isAhead_31 : decode cX7_isAhead 31 = .ok (.iconst 1, 1) := by decide +kernel
theorem dX7_isAhead_32 : decode cX7_isAhead 32 = .ok (.goto 4, 3) := by decide +kernel
theorem dX7_isAhead_35 : decode cX7_isAhead 35 = .ok (.iconst 0, 1) := by decide +kernel
theorem dX7_isAhead_36 : decode cX7_isAhead 36 = .ok (.ireturn, 1) := by decide +kernel
theorem dX7_behind_0 : decode cX7_behind 0 = .ok (.iconst (-1), 1) := by decide +kernel
theorem dX7_behind_1 : decode cX7_behind 1 = .ok (.istore_n 3, 1) := by decide +kernel
theorem dX7_behind_2 : decode cX7_behind 2 = .ok (.iconst 0, 1) := by decide +kernel
theorem dX7_behind_3 : decode cX7_behind 3 = .ok (.istore 4, 2) := by decide +kernel
theorem dX7_behind_5 : decode cX7_behind 5 = .ok (.iload 4, 2) := by decide +kernel
theorem dX7_behind_7 : decode cX7_behind 7 = .ok (.aload_n 0, 1) := by decide +kernel
theorem dX7_behind_8 : decode cX7_behind 8 = .ok (.getfield 89, 3) := by decide +kernel
theorem dX7_behind_11 : decode cX7_behind 11 = .ok (.if_icmp .ge 68, 3) := by decide +kernel
theorem dX7_behind_14 : decode cX7_behind 14 = .ok (.aload_n 0, 1) := by decide +kernel
theorem dX7_behind_15 : decode cX7_behind 15 = .ok (.iload 4, 2) := by decide +kernel
theorem dX7_behind_17 : decode cX7_behind 17 = .ok (.iload_n 1, 1) := by decide +kernel
theorem dX7_behind_18 : decode cX7_behind 18 = .ok (.invokevirtual 112, 3) := by decide +kernel
theorem dX7_behind_21 : decode cX7_behind 21 = .ok (.ifCond .eq 22, 3) := by decide +kernel
theorem dX7_behind_24 : decode cX7_behind 24 = .ok (.iload_n 2, 1) := by decide +kernel
theorem dX7_behind_25 : decode cX7_behind 25 = .ok (.iconst (-1), 1) := by decide +kernel
theorem dX7_behind_26 : decode cX7_behind 26 = .ok (.if_icmp .eq 13, 3) := by decide +kernel
theorem dX7_behind_29 : decode cX7_behind 29 = .ok (.aload_n 0, 1) := by decide +kernel
theorem dX7_behind_30 : decode cX7_behind 30 = .ok (.iload_n 2, 1) := by decide +kernel
theorem dX7_behind_31 : decode cX7_behind 31 = .ok (.iload 4, 2) := by decide +kernel
theorem dX7_behind_33 : decode cX7_behind 33 = .ok (.invokevirtual 116, 3) := by decide +kernel
theorem dX7_behind_36 : decode cX7_behind 36 = .ok (.ifCond .eq 7, 3) := by decide +kernel
theorem dX7_behind_39 : decode cX7_behind 39 = .ok (.iconst 1, 1) := by decide +kernel
theorem dX7_behind_40 : decode cX7_behind 40 = .ok (.goto 4, 3) := by decide +kernel
theorem dX7_behind_43 : decode cX7_behind 43 = .ok (.iconst 0, 1) := by decide +kernel
theorem dX7_behind_44 : decode cX7_behind 44 = .ok (.istore 5, 2) := by decide +kernel
theorem dX7_behind_46 : decode cX7_behind 46 = .ok (.iload 5, 2) := by decide +kernel
theorem dX7_behind_48 : decode cX7_behind 48 = .ok (.ifCond .eq 23, 3) := by decide +kernel
theorem dX7_behind_51 : decode cX7_behind 51 = .ok (.iload_n 3, 1) := by decide +kernel
theorem dX7_behind_52 : decode cX7_behind 52 = .ok (.iconst (-1), 1) := by decide +kernel
theorem dX7_behind_53 : decode cX7_behind 53 = .ok (.if_icmp .eq 13, 3) := by decide +kernel
theorem dX7_behind_56 : decode cX7_behind 56 = .ok (.aload_n 0, 1) := by decide +kernel
theorem dX7_behind_57 : decode cX7_behind 57 = .ok (.iload 4, 2) := by decide +kernel
theorem dX7_behind_59 : decode cX7_behind 59 = .ok (.iload_n 3, 1) := by decide +kernel
theorem dX7_behind_60 : decode cX7_behind 60 = .ok (.invokevirtual 116, 3) := by decide +kernel
theorem dX7_behind_63 : decode cX7_behind 63 = .ok (.ifCond .eq 8, 3) := by decide +kernel
theorem dX7_behind_66 : decode cX7_behind 66 = .ok (.iload 4, 2) := by decide +kernel
theorem dX7_behind_68 : decode cX7_behind 68 = .ok (.goto 4, 3) := by decide +kernel
theorem dX7_behind_71 : decode cX7_behind 71 = .ok (.iload_n 3, 1) := by decide +kernel
theorem dX7_behind_72 : decode cX7_behind 72 = .ok (.istore_n 3, 1) := by decide +kernel
theorem dX7_behind_73 : decode cX7_behind 73 = .ok (.iinc 4 1, 3) := by decide +kernel
theorem dX7_behind_76 : decode cX7_behind 76 = .ok (.goto (-71), 3) := by decide +kernel
theorem dX7_behind_79 : decode cX7_behind 79 = .ok (.iload_n 3, 1) := by decide +kernel
theorem dX7_behind_80 : decode cX7_behind 80 = .ok (.ireturn, 1) := by decide +kernel
theorem dX7_events_0 : decode cX7_events 0 = .ok (.aload_n 0, 1) := by decide +kernel
theorem dX7_events_1 : decode cX7_events 1 = .ok (.aload_n 0, 1) := by decide +kernel
theorem dX7_events_2 : decode cX7_events 2 = .ok (.iload_n 1, 1) := by decide +kernel
theorem dX7_events_3 : decode cX7_events 3 = .ok (.invokevirtual 100, 3) := by decide +kernel
theorem dX7_events_6 : decode cX7_events 6 = .ok (.ifCond .eq 16, 3) := by decide +kernel
theorem dX7_events_9 : decode cX7_events 9 = .ok (.iload_n 2, 1) := by decide +kernel
theorem dX7_events_10 : decode cX7_events 10 = .ok (.iconst (-1), 1) := by decide +kernel
theorem dX7_events_11 : decode cX7_events 11 = .ok (.iconst 4, 1) := by decide +kernel
theorem dX7_events_12 : decode cX7_events 12 = .ok (.invokestatic 84, 3) := by decide +kernel
theorem dX7_events_15 : decode cX7_events 15 = .ok (.ifCond .eq 7, 3) := by decide +kernel
theorem dX7_events_18 : decode cX7_events 18 = .ok (.iconst 0, 1) := by decide +kernel
theorem dX7_events_19 : decode cX7_events 19 = .ok (.goto 4, 3) := by decide +kernel
theorem dX7_events_22 : decode cX7_events 22 = .ok (.iconst 1, 1) := by decide +kernel
theorem dX7_events_23 : decode cX7_events 23 = .ok (.putfield 81, 3) := by decide +kernel
theorem dX7_events_26 : decode cX7_events 26 = .ok (.aload_n 0, 1) := by decide +kernel
theorem dX7_events_27 : decode cX7_events 27 = .ok (.getfield 81, 3) := by decide +kernel
theorem dX7_events_30 : decode cX7_events 30 = .ok (.ifCond .le 5, 3) := by decide +kernel
theorem dX7_events_33 : decode cX7_events 33 = .ok (.iconst 0, 1) := by decide +kernel
theorem dX7_events_34 : decode cX7_events 34 = .ok (.ireturn, 1) := by decide +kernel
theorem dX7_events_35 : decode cX7_events 35 = .ok (.aload_n 0, 1) := by decide +kernel
theorem dX7_events_36 : decode cX7_events 36 = .ok (.invokevirtual 103, 3) := by decide +kernel
theorem dX7_events_39 : decode cX7_events 39 = .ok (.iconst 0, 1) := by decide +kernel
theorem dX7_events_40 : decode cX7_events 40 = .ok (.istore_n 3, 1) := by decide +kernel
theorem dX7_events_41 : decode cX7_events 41 = .ok (.iconst 0, 1) := by decide +kernel
theorem dX7_events_42 : decode cX7_events 42 = .ok (.istore 4, 2) := by decide +kernel
theorem dX7_events_44 : decode cX7_events 44 = .ok (.iload 4, 2) := by decide +kernel
theorem dX7_events_46 : decode cX7_events 46 = .ok (.aload_n 0, 1) := by decide +kernel
theorem dX7_events_47 : decode cX7_events 47 = .ok (.getfield 89, 3) := by decide +kernel
theorem dX7_events_50 : decode cX7_events 50 = .ok (.if_icmp .ge 43, 3) := by decide +kernel
theorem dX7_events_53 : decode cX7_events 53 = .ok (.iload_n 3, 1) := by decide +kernel
theorem dX7_events_54 : decode cX7_events 54 = .ok (.aload_n 0, 1) := by decide +kernel
theorem dX7_events_55 : decode cX7_events 55 = .ok (.iload 4, 2) := by decide +kernel
theorem dX7_events_57 : decode cX7_events 57 = .ok (.iload_n 1, 1) := by decide +kernel
theorem dX7_events_58 : decode cX7_events 58 = .ok (.invokevirtual 112, 3) := by decide +kernel
theorem dX7_events_61 : decode cX7_events 61 = .ok (.ifCond .eq 23, 3) := by decide +kernel
theorem dX7_events_64 : decode cX7_events 64 = .ok (.iload_n 2, 1) := by decide +kernel
theorem dX7_events_65 : decode cX7_events 65 = .ok (.iconst (-1), 1) := by decide +kernel
theorem dX7_events_66 : decode cX7_events 66 = .ok (.if_icmp .eq 14, 3) := by decide +kernel
theorem dX7_events_69 : decode cX7_events 69 = .ok (.aload_n 0, 1) := by decide +kernel
theorem dX7_events_70 : decode cX7_events 70 = .ok (.getfield 23, 3) := by decide +kernel
theorem dX7_events_73 : decode cX7_events 73 = .ok (.iload 4, 2) := by decide +kernel
theorem dX7_events_75 : decode cX7_events 75 = .ok (.iaload, 1) := by decide +kernel
theorem dX7_events_76 : decode cX7_events 76 = .ok (.iload_n 2, 1) := by decide +kernel
theorem dX7_events_77 : decode cX7_events 77 = .ok (.if_icmp .ne 7, 3) := by decide +kernel
theorem dX7_events_80 : decode cX7_events 80 = .ok (.iconst 1, 1) := by decide +kernel
theorem dX7_events_81 : decode cX7_events 81 = .ok (.goto 4, 3) := by decide +kernel
theorem dX7_events_84 : decode cX7_events 84 = .ok (.iconst 0, 1) := by decide +kernel
theorem dX7_events_85 : decode cX7_events 85 = .ok (.iadd, 1) := by decide +kernel
theorem dX7_events_86 : decode cX7_events 86 = .ok (.istore_n 3, 1) := by decide +kernel
theorem dX7_events_87 : decode cX7_events 87 = .ok (.iinc 4 1, 3) := by decide +kernel
theorem dX7_events_90 : decode cX7_events 90 = .ok (.goto (-46), 3) := by decide +kernel
theorem dX7_events_93 : decode cX7_events 93 = .ok (.iload_n 3, 1) := by decide +kernel
theorem dX7_events_94 : decode cX7_events 94 = .ok (.ireturn, 1) := by decide +kernel
theorem dX7_eventAt_0 : decode cX7_eventAt 0 = .ok (.aload_n 0, 1) := by decide +kernel
theorem dX7_eventAt_1 : decode cX7_eventAt 1 = .ok (.aload_n 0, 1) := by decide +kernel
theorem dX7_eventAt_2 : decode cX7_eventAt 2 = .ok (.iload_n 1, 1) := by decide +kernel
theorem dX7_eventAt_3 : decode cX7_eventAt 3 = .ok (.invokevirtual 100, 3) := by decide +kernel
theorem dX7_eventAt_6 : decode cX7_eventAt 6 = .ok (.ifCond .ne 7, 3) := by decide +kernel
theorem dX7_eventAt_9 : decode cX7_eventAt 9 = .ok (.iconst 2, 1) := by decide +kernel
theorem dX7_eventAt_10 : decode cX7_eventAt 10 = .ok (.goto 12, 3) := by decide +kernel
theorem dX7_eventAt_13 : decode cX7_eventAt 13 = .ok (.iload_n 2, 1) := by decide +kernel
theorem dX7_eventAt_14 : decode cX7_eventAt 14 = .ok (.ifCond .ge 7, 3) := by decide +kernel
theorem dX7_eventAt_17 : decode cX7_eventAt 17 = .ok (.iconst 1, 1) := by decide +kernel
theorem dX7_eventAt_18 : decode cX7_eventAt 18 = .ok (.goto 4, 3) := by decide +kernel
theorem dX7_eventAt_21 : decode cX7_eventAt 21 = .ok (.iconst 0, 1) := by decide +kernel
theorem dX7_eventAt_22 : decode cX7_eventAt 22 = .ok (.putfield 81, 3) := by decide +kernel
theorem dX7_eventAt_25 : decode cX7_eventAt 25 = .ok (.aload_n 0, 1) := by decide +kernel
theorem dX7_eventAt_26 : decode cX7_eventAt 26 = .ok (.getfield 81, 3) := by decide +kernel
theorem dX7_eventAt_29 : decode cX7_eventAt 29 = .ok (.ifCond .le 5, 3) := by decide +kernel
theorem dX7_eventAt_32 : decode cX7_eventAt 32 = .ok (.iconst 0, 1) := by decide +kernel
theorem dX7_eventAt_33 : decode cX7_eventAt 33 = .ok (.ireturn, 1) := by decide +kernel
theorem dX7_eventAt_34 : decode cX7_eventAt 34 = .ok (.aload_n 0, 1) := by decide +kernel
theorem dX7_eventAt_35 : decode cX7_eventAt 35 = .ok (.invokevirtual 103, 3) := by decide +kernel
theorem dX7_eventAt_38 : decode cX7_eventAt 38 = .ok (.aload_n 0, 1) := by decide +kernel
theorem dX7_eventAt_39 : decode cX7_eventAt 39 = .ok (.iload_n 1, 1) := by decide +kernel
theorem dX7_eventAt_40 : decode cX7_eventAt 40 = .ok (.iconst (-1), 1) := by decide +kernel
theorem dX7_eventAt_41 : decode cX7_eventAt 41 = .ok (.invokevirtual 119, 3) := by decide +kernel
theorem dX7_eventAt_44 : decode cX7_eventAt 44 = .ok (.istore_n 3, 1) := by decide +kernel
theorem dX7_eventAt_45 : decode cX7_eventAt 45 = .ok (.iconst 0, 1) := by decide +kernel
theorem dX7_eventAt_46 : decode cX7_eventAt 46 = .ok (.istore 4, 2) := by decide +kernel
theorem dX7_eventAt_48 : decode cX7_eventAt 48 = .ok (.iload 4, 2) := by decide +kernel
theorem dX7_eventAt_50 : decode cX7_eventAt 50 = .ok (.iload_n 2, 1) := by decide +kernel
theorem dX7_eventAt_51 : decode cX7_eventAt 51 = .ok (.if_icmp .ge 21, 3) := by decide +kernel
theorem dX7_eventAt_54 : decode cX7_eventAt 54 = .ok (.iload_n 3, 1) := by decide +kernel
theorem dX7_eventAt_55 : decode cX7_eventAt 55 = .ok (.iconst (-1), 1) := by decide +kernel
theorem dX7_eventAt_56 : decode cX7_eventAt 56 = .ok (.if_icmp .eq 16, 3) := by decide +kernel
theorem dX7_eventAt_59 : decode cX7_eventAt 59 = .ok (.aload_n 0, 1) := by decide +kernel
theorem dX7_eventAt_60 : decode cX7_eventAt 60 = .ok (.iload_n 1, 1) := by decide +kernel
theorem dX7_eventAt_61 : decode cX7_eventAt 61 = .ok (.iload_n 3, 1) := by decide +kernel
theorem dX7_eventAt_62 : decode cX7_eventAt 62 = .ok (.invokevirtual 119, 3) := by decide +kernel
theorem dX7_eventAt_65 : decode cX7_eventAt 65 = .ok (.istore_n 3, 1) := by decide +kernel
theorem dX7_eventAt_66 : decode cX7_eventAt 66 = .ok (.iinc 4 1, 3) := by decide +kernel
theorem dX7_eventAt_69 : decode cX7_eventAt 69 = .ok (.goto (-21), 3) := by decide +kernel
theorem dX7_eventAt_72 : decode cX7_eventAt 72 = .ok (.aload_n 0, 1) := by decide +kernel
theorem dX7_eventAt_73 : decode cX7_eventAt 73 = .ok (.iload_n 3, 1) := by decide +kernel
theorem dX7_eventAt_74 : decode cX7_eventAt 74 = .ok (.iconst (-1), 1) := by decide +kernel
theorem dX7_eventAt_75 : decode cX7_eventAt 75 = .ok (.if_icmp .ne 7, 3) := by decide +kernel
theorem dX7_eventAt_78 : decode cX7_eventAt 78 = .ok (.iconst 1, 1) := by decide +kernel
theorem dX7_eventAt_79 : decode cX7_eventAt 79 = .ok (.goto 4, 3) := by decide +kernel
theorem dX7_eventAt_82 : decode cX7_eventAt 82 = .ok (.iconst 0, 1) := by decide +kernel
theorem dX7_eventAt_83 : decode cX7_eventAt 83 = .ok (.putfield 81, 3) := by decide +kernel
theorem dX7_eventAt_86 : decode cX7_eventAt 86 = .ok (.aload_n 0, 1) := by decide +kernel
theorem dX7_eventAt_87 : decode cX7_eventAt 87 = .ok (.getfield 81, 3) := by decide +kernel
theorem dX7_eventAt_90 : decode cX7_eventAt 90 = .ok (.ifCond .le 7, 3) := by decide +kernel
theorem dX7_eventAt_93 : decode cX7_eventAt 93 = .ok (.iconst 0, 1) := by decide +kernel
theorem dX7_eventAt_94 : decode cX7_eventAt 94 = .ok (.goto 9, 3) := by decide +kernel
theorem dX7_eventAt_97 : decode cX7_eventAt 97 = .ok (.aload_n 0, 1) := by decide +kernel
theorem dX7_eventAt_98 : decode cX7_eventAt 98 = .ok (.getfield 13, 3) := by decide +kernel
theorem dX7_eventAt_101 : decode cX7_eventAt 101 = .ok (.iload_n 3, 1) := by decide +kernel
theorem dX7_eventAt_102 : decode cX7_eventAt 102 = .ok (.iaload, 1) := by decide +kernel
theorem dX7_eventAt_103 : decode cX7_eventAt 103 = .ok (.ireturn, 1) := by decide +kernel
theorem dX7_time_0 : decode cX7_time 0 = .ok (.aload_n 0, 1) := by decide +kernel
theorem dX7_time_1 : decode cX7_time 1 = .ok (.iconst 0, 1) := by decide +kernel
theorem dX7_time_2 : decode cX7_time 2 = .ok (.putfield 81, 3) := by decide +kernel
theorem dX7_time_5 : decode cX7_time 5 = .ok (.iconst (-1), 1) := by decide +kernel
theorem dX7_time_6 : decode cX7_time 6 = .ok (.istore_n 2, 1) := by decide +kernel
theorem dX7_time_7 : decode cX7_time 7 = .ok (.iconst 0, 1) := by decide +kernel
theorem dX7_time_8 : decode cX7_time 8 = .ok (.istore_n 3, 1) := by decide +kernel
theorem dX7_time_9 : decode cX7_time 9 = .ok (.iload_n 3, 1) := by decide +kernel
theorem dX7_time_10 : decode cX7_time 10 = .ok (.aload_n 0, 1) := by decide +kernel
theorem dX7_time_11 : decode cX7_time 11 = .ok (.getfield 89, 3) := by decide +kernel
theorem dX7_time_14 : decode cX7_time 14 = .ok (.if_icmp .ge 38, 3) := by decide +kernel
theorem dX7_time_17 : decode cX7_time 17 = .ok (.aload_n 0, 1) := by decide +kernel
theorem dX7_time_18 : decode cX7_time 18 = .ok (.getfield 13, 3) := by decide +kernel
theorem dX7_time_21 : decode cX7_time 21 = .ok (.iload_n 3, 1) := by decide +kernel
theorem dX7_time_22 : decode cX7_time 22 = .ok (.iaload, 1) := by decide +kernel
theorem dX7_time_23 : decode cX7_time 23 = .ok (.iload_n 1, 1) := by decide +kernel
theorem dX7_time_24 : decode cX7_time 24 = .ok (.if_icmp .ne 20, 3) := by decide +kernel
theorem dX7_time_27 : decode cX7_time 27 = .ok (.aload_n 0, 1) := by decide +kernel
theorem dX7_time_28 : decode cX7_time 28 = .ok (.getfield 32, 3) := by decide +kernel
theorem dX7_time_31 : decode cX7_time 31 = .ok (.iload_n 3, 1) := by decide +kernel
theorem dX7_time_32 : decode cX7_time 32 = .ok (.baload, 1) := by decide +kernel
theorem dX7_time_33 : decode cX7_time 33 = .ok (.ifCond .ne 11, 3) := by decide +kernel
theorem dX7_time_36 : decode cX7_time 36 = .ok (.aload_n 0, 1) := by decide +kernel
theorem dX7_time_37 : decode cX7_time 37 = .ok (.iload_n 3, 1) := by decide +kernel
theorem dX7_time_38 : decode cX7_time 38 = .ok (.invokevirtual 109, 3) := by decide +kernel
theorem dX7_time_41 : decode cX7_time 41 = .ok (.goto 4, 3) := by decide +kernel
theorem dX7_time_44 : decode cX7_time 44 = .ok (.iload_n 2, 1) := by decide +kernel
theorem dX7_time_45 : decode cX7_time 45 = .ok (.istore_n 2, 1) := by decide +kernel
theorem dX7_time_46 : decode cX7_time 46 = .ok (.iinc 3 1, 3) := by decide +kernel
theorem dX7_time_49 : decode cX7_time 49 = .ok (.goto (-40), 3) := by decide +kernel
theorem dX7_time_52 : decode cX7_time 52 = .ok (.iload_n 2, 1) := by decide +kernel
theorem dX7_time_53 : decode cX7_time 53 = .ok (.ireturn, 1) := by decide +kernel
theorem dX7_cuts_0 : decode cX7_cuts 0 = .ok (.iload_n 3, 1) := by decide +kernel
theorem dX7_cuts_1 : decode cX7_cuts 1 = .ok (.iconst (-1), 1) := by decide +kernel
theorem dX7_cuts_2 : decode cX7_cuts 2 = .ok (.if_icmp .eq 27, 3) := by decide +kernel
theorem dX7_cuts_5 : decode cX7_cuts 5 = .ok (.aload_n 0, 1) := by decide +kernel
theorem dX7_cuts_6 : decode cX7_cuts 6 = .ok (.getfield 26, 3) := by decide +kernel
theorem dX7_cuts_9 : decode cX7_cuts 9 = .ok (.iload_n 2, 1) := by decide +kernel
theorem dX7_cuts_10 : decode cX7_cuts 10 = .ok (.iaload, 1) := by decide +kernel
theorem dX7_cuts_11 : decode cX7_cuts 11 = .ok (.iconst (-1), 1) := by decide +kernel
theorem dX7_cuts_12 : decode cX7_cuts 12 = .ok (.if_icmp .eq 17, 3) := by decide +kernel
theorem dX7_cuts_15 : decode cX7_cuts 15 = .ok (.aload_n 0, 1) := by decide +kernel
theorem dX7_cuts_16 : decode cX7_cuts 16 = .ok (.getfield 26, 3) := by decide +kernel
theorem dX7_cuts_19 : decode cX7_cuts 19 = .ok (.iload_n 2, 1) := by decide +kernel
theorem dX7_cuts_20 : decode cX7_cuts 20 = .ok (.iaload, 1) := by decide +kernel
theorem dX7_cuts_21 : decode cX7_cuts 21 = .ok (.iload_n 3, 1) := by decide +kernel
theorem dX7_cuts_22 : decode cX7_cuts 22 = .ok (.if_icmp .eq 7, 3) := by decide +kernel
theorem dX7_cuts_25 : decode cX7_cuts 25 = .ok (.iconst 1, 1) := by decide +kernel
theorem dX7_cuts_26 : decode cX7_cuts 26 = .ok (.goto 4, 3) := by decide +kernel
theorem dX7_cuts_29 : decode cX7_cuts 29 = .ok (.iconst 0, 1) := by decide +kernel
theorem dX7_cuts_30 : decode cX7_cuts 30 = .ok (.istore 4, 2) := by decide +kernel
theorem dX7_cuts_32 : decode cX7_cuts 32 = .ok (.aload_n 0, 1) := by decide +kernel
theorem dX7_cuts_33 : decode cX7_cuts 33 = .ok (.iload_n 2, 1) := by decide +kernel
theorem dX7_cuts_34 : decode cX7_cuts 34 = .ok (.invokevirtual 109, 3) := by decide +kernel
theorem dX7_cuts_37 : decode cX7_cuts 37 = .ok (.aload_n 0, 1) := by decide +kernel
theorem dX7_cuts_38 : decode cX7_cuts 38 = .ok (.iload_n 1, 1) := by decide +kernel
theorem dX7_cuts_39 : decode cX7_cuts 39 = .ok (.invokevirtual 109, 3) := by decide +kernel
theorem dX7_cuts_42 : decode cX7_cuts 42 = .ok (.isub, 1) := by decide +kernel
theorem dX7_cuts_43 : decode cX7_cuts 43 = .ok (.bipush 30, 2) := by decide +kernel
theorem dX7_cuts_45 : decode cX7_cuts 45 = .ok (.if_icmp .gt 29, 3) := by decide +kernel
theorem dX7_cuts_48 : decode cX7_cuts 48 = .ok (.aload_n 0, 1) := by decide +kernel
theorem dX7_cuts_49 : decode cX7_cuts 49 = .ok (.iload_n 2, 1) := by decide +kernel
theorem dX7_cuts_50 : decode cX7_cuts 50 = .ok (.invokevirtual 109, 3) := by decide +kernel
theorem dX7_cuts_53 : decode cX7_cuts 53 = .ok (.sipush 1440, 3) := by decide +kernel
theorem dX7_cuts_56 : decode cX7_cuts 56 = .ok (.idiv, 1) := by decide +kernel
theorem dX7_cuts_57 : decode cX7_cuts 57 = .ok (.aload_n 0, 1) := by decide +kernel
theorem dX7_cuts_58 : decode cX7_cuts 58 = .ok (.iload_n 1, 1) := by decide +kernel
theorem dX7_cuts_59 : decode cX7_cuts 59 = .ok (.invokevirtual 109, 3) := by decide +kernel
theorem dX7_cuts_62 : decode cX7_cuts 62 = .ok (.sipush 1440, 3) := by decide +kernel
theorem dX7_cuts_65 : decode cX7_cuts 65 = .ok (.idiv, 1) := by decide +kernel
theorem dX7_cuts_66 : decode cX7_cuts 66 = .ok (.if_icmp .ne 8, 3) := by decide +kernel
theorem dX7_cuts_69 : decode cX7_cuts 69 = .ok (.iload 4, 2) := by decide +kernel
theorem dX7_cuts_71 : decode cX7_cuts 71 = .ok (.ifCond .eq 7, 3) := by decide +kernel
theorem dX7_cuts_74 : decode cX7_cuts 74 = .ok (.iconst 1, 1) := by decide +kernel
theorem dX7_cuts_75 : decode cX7_cuts 75 = .ok (.goto 4, 3) := by decide +kernel
theorem dX7_cuts_78 : decode cX7_cuts 78 = .ok (.iconst 0, 1) := by decide +kernel
theorem dX7_cuts_79 : decode cX7_cuts 79 = .ok (.ireturn, 1) := by decide +kernel
theorem dX7_goes_0 : decode cX7_goes 0 = .ok (.aload_n 0, 1) := by decide +kernel
theorem dX7_goes_1 : decode cX7_goes 1 = .ok (.invokevirtual 103, 3) := by decide +kernel
theorem dX7_goes_4 : decode cX7_goes 4 = .ok (.aload_n 0, 1) := by decide +kernel
theorem dX7_goes_5 : decode cX7_goes 5 = .ok (.iload_n 1, 1) := by decide +kernel
theorem dX7_goes_6 : decode cX7_goes 6 = .ok (.iconst (-1), 1) := by decide +kernel
theorem dX7_goes_7 : decode cX7_goes 7 = .ok (.invokevirtual 119, 3) := by decide +kernel
theorem dX7_goes_10 : decode cX7_goes 10 = .ok (.istore 4, 2) := by decide +kernel
theorem dX7_goes_12 : decode cX7_goes 12 = .ok (.iconst 0, 1) := by decide +kernel
theorem dX7_goes_13 : decode cX7_goes 13 = .ok (.istore 5, 2) := by decide +kernel
theorem dX7_goes_15 : decode cX7_goes 15 = .ok (.iload 4, 2) := by decide +kernel
theorem dX7_goes_17 : decode cX7_goes 17 = .ok (.iconst (-1), 1) := by decide +kernel
theorem dX7_goes_18 : decode cX7_goes 18 = .ok (.if_icmp .eq 154, 3) := by decide +kernel
theorem dX7_goes_21 : decode cX7_goes 21 = .ok (.aload_n 0, 1) := by decide +kernel
theorem dX7_goes_22 : decode cX7_goes 22 = .ok (.iload 4, 2) := by decide +kernel
theorem dX7_goes_24 : decode cX7_goes 24 = .ok (.invokevirtual 109, 3) := by decide +kernel
theorem dX7_goes_27 : decode cX7_goes 27 = .ok (.istore 6, 2) := by decide +kernel
theorem dX7_goes_29 : decode cX7_goes 29 = .ok (.iload 4, 2) := by decide +kernel
theorem dX7_goes_31 : decode cX7_goes 31 = .ok (.istore 7, 2) := by decide +kernel
theorem dX7_goes_33 : decode cX7_goes 33 = .ok (.iconst 1, 1) := by decide +kernel
theorem dX7_goes_34 : decode cX7_goes 34 = .ok (.istore 8, 2) := by decide +kernel
theorem dX7_goes_36 : decode cX7_goes 36 = .ok (.aload_n 0, 1) := by decide +kernel
theorem dX7_goes_37 : decode cX7_goes 37 = .ok (.getfield 26, 3) := by decide +kernel
theorem dX7_goes_40 : decode cX7_goes 40 = .ok (.iload 4, 2) := by decide +kernel
theorem dX7_goes_42 : decode cX7_goes 42 = .ok (.iaload, 1) := by decide +kernel
theorem dX7_goes_43 : decode cX7_goes 43 = .ok (.istore 9, 2) := by decide +kernel
theorem dX7_goes_45 : decode cX7_goes 45 = .ok (.aload_n 0, 1) := by decide +kernel
theorem dX7_goes_46 : decode cX7_goes 46 = .ok (.iload_n 1, 1) := by decide +kernel
theorem dX7_goes_47 : decode cX7_goes 47 = .ok (.iload 4, 2) := by decide +kernel
theorem dX7_goes_49 : decode cX7_goes 49 = .ok (.invokevirtual 119, 3) := by decide +kernel
theorem dX7_goes_52 : decode cX7_goes 52 = .ok (.istore 10, 2) := by decide +kernel
theorem dX7_goes_54 : decode cX7_goes 54 = .ok (.iload 10, 2) := by decide +kernel
theorem dX7_goes_56 : decode cX7_goes 56 = .ok (.iconst (-1), 1) := by decide +kernel
theorem dX7_goes_57 : decode cX7_goes 57 = .ok (.if_icmp .eq 55, 3) := by decide +kernel
theorem dX7_goes_60 : decode cX7_goes 60 = .ok (.aload_n 0, 1) := by decide +kernel
theorem dX7_goes_61 : decode cX7_goes 61 = .ok (.iload 7, 2) := by decide +kernel
theorem dX7_goes_63 : decode cX7_goes 63 = .ok (.iload 10, 2) := by decide +kernel
theorem dX7_goes_65 : decode cX7_goes 65 = .ok (.iload 9, 2) := by decide +kernel
theorem dX7_goes_67 : decode cX7_goes 67 = .ok (.invokevirtual 123, 3) := by decide +kernel
theorem dX7_goes_70 : decode cX7_goes 70 = .ok (.ifCond .ne 42, 3) := by decide +kernel
theorem dX7_goes_73 : decode cX7_goes 73 = .ok (.iload 9, 2) := by decide +kernel
theorem dX7_goes_75 : decode cX7_goes 75 = .ok (.iconst (-1), 1) := by decide +kernel
theorem dX7_goes_76 : decode cX7_goes 76 = .ok (.if_icmp .ne 13, 3) := by decide +kernel
theorem dX7_goes_79 : decode cX7_goes 79 = .ok (.aload_n 0, 1) := by decide +kernel
theorem dX7_goes_80 : decode cX7_goes 80 = .ok (.getfield 26, 3) := by decide +kernel
theorem dX7_goes_83 : decode cX7_goes 83 = .ok (.iload 10, 2) := by decide +kernel
theorem dX7_goes_85 : decode cX7_goes 85 = .ok (.iaload, 1) := by decide +kernel
theorem dX7_goes_86 : decode cX7_goes 86 = .ok (.goto 5, 3) := by decide +kernel
theorem dX7_goes_89 : decode cX7_goes 89 = .ok (.iload 9, 2) := by decide +kernel
theorem dX7_goes_91 : decode cX7_goes 91 = .ok (.istore 9, 2) := by decide +kernel
theorem dX7_goes_93 : decode cX7_goes 93 = .ok (.iinc 8 1, 3) := by decide +kernel
theorem dX7_goes_96 : decode cX7_goes 96 = .ok (.iload 10, 2) := by decide +kernel
theorem dX7_goes_98 : decode cX7_goes 98 = .ok (.istore 7, 2) := by decide +kernel
theorem dX7_goes_100 : decode cX7_goes 100 = .ok (.aload_n 0, 1) := by decide +kernel
theorem dX7_goes_101 : decode cX7_goes 101 = .ok (.iload_n 1, 1) := by decide +kernel
theorem dX7_goes_102 : decode cX7_goes 102 = .ok (.iload 10, 2) := by decide +kernel
theorem dX7_goes_104 : decode cX7_goes 104 = .ok (.invokevirtual 119, 3) := by decide +kernel
theorem dX7_goes_107 : decode cX7_goes 107 = .ok (.istore 10, 2) := by decide +kernel
theorem dX7_goes_109 : decode cX7_goes 109 = .ok (.goto (-55), 3) := by decide +kernel
theorem dX7_goes_112 : decode cX7_goes 112 = .ok (.iload_n 3, 1) := by decide +kernel
theorem dX7_goes_113 : decode cX7_goes 113 = .ok (.iconst 4, 1) := by decide +kernel
theorem dX7_goes_114 : decode cX7_goes 114 = .ok (.if_icmp .ge 48, 3) := by decide +kernel
theorem dX7_goes_117 : decode cX7_goes 117 = .ok (.iload 5, 2) := by decide +kernel
theorem dX7_goes_119 : decode cX7_goes 119 = .ok (.iload_n 2, 1) := by decide +kernel
theorem dX7_goes_120 : decode cX7_goes 120 = .ok (.if_icmp .ne 42, 3) := by decide +kernel
theorem dX7_goes_123 : decode cX7_goes 123 = .ok (.iload_n 3, 1) := by decide +kernel
theorem dX7_goes_124 : decode cX7_goes 124 = .ok (.ifCond .ne 8, 3) := by decide +kernel
theorem dX7_goes_127 : decode cX7_goes 127 = .ok (.iload 6, 2) := by decide +kernel
theorem dX7_goes_129 : decode cX7_goes 129 = .ok (.goto 32, 3) := by decide +kernel
theorem dX7_goes_132 : decode cX7_goes 132 = .ok (.iload_n 3, 1) := by decide +kernel
theorem dX7_goes_133 : decode cX7_goes 133 = .ok (.iconst 1, 1) := by decide +kernel
theorem dX7_goes_134 : decode cX7_goes 134 = .ok (.if_icmp .ne 15, 3) := by decide +kernel
theorem dX7_goes_137 : decode cX7_goes 137 = .ok (.aload_n 0, 1) := by decide +kernel
theorem dX7_goes_138 : decode cX7_goes 138 = .ok (.iload 7, 2) := by decide +kernel
theorem dX7_goes_140 : decode cX7_goes 140 = .ok (.invokevirtual 109, 3) := by decide +kernel
theorem dX7_goes_143 : decode cX7_goes 143 = .ok (.iload 6, 2) := by decide +kernel
theorem dX7_goes_145 : decode cX7_goes 145 = .ok (.isub, 1) := by decide +kernel
theorem dX7_goes_146 : decode cX7_goes 146 = .ok (.goto 15, 3) := by decide +kernel
theorem dX7_goes_149 : decode cX7_goes 149 = .ok (.iload_n 3, 1) := by decide +kernel
theorem dX7_goes_150 : decode cX7_goes 150 = .ok (.iconst 2, 1) := by decide +kernel
theorem dX7_goes_151 : decode cX7_goes 151 = .ok (.if_icmp .ne 8, 3) := by decide +kernel
theorem dX7_goes_154 : decode cX7_goes 154 = .ok (.iload 8, 2) := by decide +kernel
theorem dX7_goes_156 : decode cX7_goes 156 = .ok (.goto 5, 3) := by decide +kernel
theorem dX7_goes_159 : decode cX7_goes 159 = .ok (.iload 9, 2) := by decide +kernel
theorem dX7_goes_161 : decode cX7_goes 161 = .ok (.ireturn, 1) := by decide +kernel
theorem dX7_goes_162 : decode cX7_goes 162 = .ok (.iinc 5 1, 3) := by decide +kernel
theorem dX7_goes_165 : decode cX7_goes 165 = .ok (.iload 10, 2) := by decide +kernel
theorem dX7_goes_167 : decode cX7_goes 167 = .ok (.istore 4, 2) := by decide +kernel
theorem dX7_goes_169 : decode cX7_goes 169 = .ok (.goto (-154), 3) := by decide +kernel
theorem dX7_goes_172 : decode cX7_goes 172 = .ok (.iload_n 3, 1) := by decide +kernel
theorem dX7_goes_173 : decode cX7_goes 173 = .ok (.iconst 4, 1) := by decide +kernel
theorem dX7_goes_174 : decode cX7_goes 174 = .ok (.if_icmp .ne 8, 3) := by decide +kernel
theorem dX7_goes_177 : decode cX7_goes 177 = .ok (.iload 5, 2) := by decide +kernel
theorem dX7_goes_179 : decode cX7_goes 179 = .ok (.goto 5, 3) := by decide +kernel
theorem dX7_goes_182 : decode cX7_goes 182 = .ok (.bipush (-2), 2) := by decide +kernel
theorem dX7_goes_184 : decode cX7_goes 184 = .ok (.ireturn, 1) := by decide +kernel
theorem dX7_sessions_0 : decode cX7_sessions 0 = .ok (.aload_n 0, 1) := by decide +kernel
theorem dX7_sessions_1 : decode cX7_sessions 1 = .ok (.aload_n 0, 1) := by decide +kernel
theorem dX7_sessions_2 : decode cX7_sessions 2 = .ok (.iload_n 1, 1) := by decide +kernel
theorem dX7_sessions_3 : decode cX7_sessions 3 = .ok (.invokevirtual 100, 3) := by decide +kernel
theorem dX7_sessions_6 : decode cX7_sessions 6 = .ok (.ifCond .eq 7, 3) := by decide +kernel
theorem dX7_sessions_9 : decode cX7_sessions 9 = .ok (.iconst 0, 1) := by decide +kernel
theorem dX7_sessions_10 : decode cX7_sessions 10 = .ok (.goto 4, 3) := by decide +kernel
theorem dX7_sessions_13 : decode cX7_sessions 13 = .ok (.iconst 1, 1) := by decide +kernel
theorem dX7_sessions_14 : decode cX7_sessions 14 = .ok (.putfield 81, 3) := by decide +kernel
theorem dX7_sessions_17 : decode cX7_sessions 17 = .ok (.aload_n 0, 1) := by decide +kernel
theorem dX7_sessions_18 : decode cX7_sessions 18 = .ok (.getfield 81, 3) := by decide +kernel
theorem dX7_sessions_21 : decode cX7_sessions 21 = .ok (.ifCond .le 7, 3) := by decide +kernel
theorem dX7_sessions_24 : decode cX7_sessions 24 = .ok (.iconst 0, 1) := by decide +kernel
theorem dX7_sessions_25 : decode cX7_sessions 25 = .ok (.goto 10, 3) := by decide +kernel
theorem dX7_sessions_28 : decode cX7_sessions 28 = .ok (.aload_n 0, 1) := by decide +kernel
theorem dX7_sessions_29 : decode cX7_sessions 29 = .ok (.iload_n 1, 1) := by decide +kernel
theorem dX7_sessions_30 : decode cX7_sessions 30 = .ok (.iconst 0, 1) := by decide +kernel
theorem dX7_sessions_31 : decode cX7_sessions 31 = .ok (.iconst 4, 1) := by decide +kernel
theorem dX7_sessions_32 : decode cX7_sessions 32 = .ok (.invokevirtual 126, 3) := by decide +kernel
theorem dX7_sessions_35 : decode cX7_sessions 35 = .ok (.ireturn, 1) := by decide +kernel
theorem dX7_session_0 : decode cX7_session 0 = .ok (.aload_n 0, 1) := by decide +kernel
theorem dX7_session_1 : decode cX7_session 1 = .ok (.aload_n 0, 1) := by decide +kernel
theorem dX7_session_2 : decode cX7_session 2 = .ok (.iload_n 1, 1) := by decide +kernel
theorem dX7_session_3 : decode cX7_session 3 = .ok (.invokevirtual 100, 3) := by decide +kernel
theorem dX7_session_6 : decode cX7_session 6 = .ok (.ifCond .eq 16, 3) := by decide +kernel
theorem dX7_session_9 : decode cX7_session 9 = .ok (.iload_n 3, 1) := by decide +kernel
theorem dX7_session_10 : decode cX7_session 10 = .ok (.iconst 0, 1) := by decide +kernel
theorem dX7_session_11 : decode cX7_session 11 = .ok (.iconst 3, 1) := by decide +kernel
theorem dX7_session_12 : decode cX7_session 12 = .ok (.invokestatic 84, 3) := by decide +kernel
theorem dX7_session_15 : decode cX7_session 15 = .ok (.ifCond .eq 7, 3) := by decide +kernel
theorem dX7_session_18 : decode cX7_session 18 = .ok (.iconst 0, 1) := by decide +kernel
theorem dX7_session_19 : decode cX7_session 19 = .ok (.goto 4, 3) := by decide +kernel
theorem dX7_session_22 : decode cX7_session 22 = .ok (.iconst 2, 1) := by decide +kernel
theorem dX7_session_23 : decode cX7_session 23 = .ok (.putfield 81, 3) := by decide +kernel
theorem dX7_session_26 : decode cX7_session 26 = .ok (.aload_n 0, 1) := by decide +kernel
theorem dX7_session_27 : decode cX7_session 27 = .ok (.getfield 81, 3) := by decide +kernel
theorem dX7_session_30 : decode cX7_session 30 = .ok (.ifCond .le 5, 3) := by decide +kernel
theorem dX7_session_33 : decode cX7_session 33 = .ok (.iconst 0, 1) := by decide +kernel
theorem dX7_session_34 : decode cX7_session 34 = .ok (.ireturn, 1) := by decide +kernel
theorem dX7_session_35 : decode cX7_session 35 = .ok (.aload_n 0, 1) := by decide +kernel
theorem dX7_session_36 : decode cX7_session 36 = .ok (.iload_n 1, 1) := by decide +kernel
theorem dX7_session_37 : decode cX7_session 37 = .ok (.iload_n 2, 1) := by decide +kernel
theorem dX7_session_38 : decode cX7_session 38 = .ok (.iload_n 3, 1) := by decide +kernel
theorem dX7_session_39 : decode cX7_session 39 = .ok (.invokevirtual 126, 3) := by decide +kernel
theorem dX7_session_42 : decode cX7_session 42 = .ok (.istore 4, 2) := by decide +kernel
theorem dX7_session_44 : decode cX7_session 44 = .ok (.aload_n 0, 1) := by decide +kernel
theorem dX7_session_45 : decode cX7_session 45 = .ok (.iload 4, 2) := by decide +kernel
theorem dX7_session_47 : decode cX7_session 47 = .ok (.bipush (-2), 2) := by decide +kernel
theorem dX7_session_49 : decode cX7_session 49 = .ok (.if_icmp .ne 7, 3) := by decide +kernel
theorem dX7_session_52 : decode cX7_session 52 = .ok (.iconst 1, 1) := by decide +kernel
theorem dX7_session_53 : decode cX7_session 53 = .ok (.goto 4, 3) := by decide +kernel
theorem dX7_session_56 : decode cX7_session 56 = .ok (.iconst 0, 1) := by decide +kernel
theorem dX7_session_57 : decode cX7_session 57 = .ok (.putfield 81, 3) := by decide +kernel
theorem dX7_session_60 : decode cX7_session 60 = .ok (.aload_n 0, 1) := by decide +kernel
theorem dX7_session_61 : decode cX7_session 61 = .ok (.getfield 81, 3) := by decide +kernel
theorem dX7_session_64 : decode cX7_session 64 = .ok (.ifCond .le 7, 3) := by decide +kernel
theorem dX7_session_67 : decode cX7_session 67 = .ok (.iconst 0, 1) := by decide +kernel
theorem dX7_session_68 : decode cX7_session 68 = .ok (.goto 5, 3) := by decide +kernel
theorem dX7_session_71 : decode cX7_session 71 = .ok (.iload 4, 2) := by decide +kernel
theorem dX7_session_73 : decode cX7_session 73 = .ok (.ireturn, 1) := by decide +kernel
theorem dX7_consent_0 : decode cX7_consent 0 = .ok (.aload_n 0, 1) := by decide +kernel
theorem dX7_consent_1 : decode cX7_consent 1 = .ok (.aload_n 0, 1) := by decide +kernel
theorem dX7_consent_2 : decode cX7_consent 2 = .ok (.iload_n 1, 1) := by decide +kernel
theorem dX7_consent_3 : decode cX7_consent 3 = .ok (.invokevirtual 100, 3) := by decide +kernel
theorem dX7_consent_6 : decode cX7_consent 6 = .ok (.ifCond .eq 28, 3) := by decide +kernel
theorem dX7_consent_9 : decode cX7_consent 9 = .ok (.iload_n 2, 1) := by decide +kernel
theorem dX7_consent_10 : decode cX7_consent 10 = .ok (.iconst 0, 1) := by decide +kernel
theorem dX7_consent_11 : decode cX7_consent 11 = .ok (.iconst 3, 1) := by decide +kernel
theorem dX7_consent_12 : decode cX7_consent 12 = .ok (.invokestatic 84, 3) := by decide +kernel
theorem dX7_consent_15 : decode cX7_consent 15 = .ok (.ifCond .eq 19, 3) := by decide +kernel
theorem dX7_consent_18 : decode cX7_consent 18 = .ok (.iload_n 3, 1) := by decide +kernel
theorem dX7_consent_19 : decode cX7_consent 19 = .ok (.iconst 0, 1) := by decide +kernel
theorem dX7_consent_20 : decode cX7_consent 20 = .ok (.aload_n 0, 1) := by decide +kernel
theorem dX7_consent_21 : decode cX7_consent 21 = .ok (.getfield 7, 3) := by decide +kernel
theorem dX7_consent_24 : decode cX7_consent 24 = .ok (.invokestatic 84, 3) := by decide +kernel
theorem dX7_consent_27 : decode cX7_consent 27 = .ok (.ifCond .eq 7, 3) := by decide +kernel
theorem dX7_consent_30 : decode cX7_consent 30 = .ok (.iconst 0, 1) := by decide +kernel
theorem dX7_consent_31 : decode cX7_consent 31 = .ok (.goto 4, 3) := by decide +kernel
theorem dX7_consent_34 : decode cX7_consent 34 = .ok (.iconst 1, 1) := by decide +kernel
theorem dX7_consent_35 : decode cX7_consent 35 = .ok (.putfield 81, 3) := by decide +kernel
theorem dX7_consent_38 : decode cX7_consent 38 = .ok (.aload_n 0, 1) := by decide +kernel
theorem dX7_consent_39 : decode cX7_consent 39 = .ok (.getfield 81, 3) := by decide +kernel
theorem dX7_consent_42 : decode cX7_consent 42 = .ok (.ifCond .le 5, 3) := by decide +kernel
theorem dX7_consent_45 : decode cX7_consent 45 = .ok (.iconst 0, 1) := by decide +kernel
theorem dX7_consent_46 : decode cX7_consent 46 = .ok (.ireturn, 1) := by decide +kernel
theorem dX7_consent_47 : decode cX7_consent 47 = .ok (.iconst 4, 1) := by decide +kernel
theorem dX7_consent_48 : decode cX7_consent 48 = .ok (.iload_n 1, 1) := by decide +kernel
theorem dX7_consent_49 : decode cX7_consent 49 = .ok (.imul, 1) := by decide +kernel
theorem dX7_consent_50 : decode cX7_consent 50 = .ok (.iload_n 2, 1) := by decide +kernel
theorem dX7_consent_51 : decode cX7_consent 51 = .ok (.iadd, 1) := by decide +kernel
theorem dX7_consent_52 : decode cX7_consent 52 = .ok (.istore 5, 2) := by decide +kernel
theorem dX7_consent_54 : decode cX7_consent 54 = .ok (.aload_n 0, 1) := by decide +kernel
theorem dX7_consent_55 : decode cX7_consent 55 = .ok (.aload_n 0, 1) := by decide +kernel
theorem dX7_consent_56 : decode cX7_consent 56 = .ok (.getfield 48, 3) := by decide +kernel
theorem dX7_consent_59 : decode cX7_consent 59 = .ok (.iload 5, 2) := by decide +kernel
theorem dX7_consent_61 : decode cX7_consent 61 = .ok (.iaload, 1) := by decide +kernel
theorem dX7_consent_62 : decode cX7_consent 62 = .ok (.bipush 20, 2) := by decide +kernel
theorem dX7_consent_64 : decode cX7_consent 64 = .ok (.if_icmp .ne 7, 3) := by decide +kernel
theorem dX7_consent_67 : decode cX7_consent 67 = .ok (.iconst 2, 1) := by decide +kernel
theorem dX7_consent_68 : decode cX7_consent 68 = .ok (.goto 4, 3) := by decide +kernel
theorem dX7_consent_71 : decode cX7_consent 71 = .ok (.iconst 0, 1) := by decide +kernel
theorem dX7_consent_72 : decode cX7_consent 72 = .ok (.putfield 81, 3) := by decide +kernel
theorem dX7_consent_75 : decode cX7_consent 75 = .ok (.aload_n 0, 1) := by decide +kernel
theorem dX7_consent_76 : decode cX7_consent 76 = .ok (.getfield 81, 3) := by decide +kernel
theorem dX7_consent_79 : decode cX7_consent 79 = .ok (.ifCond .le 5, 3) := by decide +kernel
theorem dX7_consent_82 : decode cX7_consent 82 = .ok (.iconst 0, 1) := by decide +kernel
theorem dX7_consent_83 : decode cX7_consent 83 = .ok (.ireturn, 1) := by decide +kernel
theorem dX7_consent_84 : decode cX7_consent 84 = .ok (.aload_n 0, 1) := by decide +kernel
theorem dX7_consent_85 : decode cX7_consent 85 = .ok (.getfield 51, 3) := by decide +kernel
theorem dX7_consent_88 : decode cX7_consent 88 = .ok (.bipush 20, 2) := by decide +kernel
theorem dX7_consent_90 : decode cX7_consent 90 = .ok (.iload 5, 2) := by decide +kernel
theorem dX7_consent_92 : decode cX7_consent 92 = .ok (.imul, 1) := by decide +kernel
theorem dX7_consent_93 : decode cX7_consent 93 = .ok (.aload_n 0, 1) := by decide +kernel
theorem dX7_consent_94 : decode cX7_consent 94 = .ok (.getfield 48, 3) := by decide +kernel
theorem dX7_consent_97 : decode cX7_consent 97 = .ok (.iload 5, 2) := by decide +kernel
theorem dX7_consent_99 : decode cX7_consent 99 = .ok (.iaload, 1) := by decide +kernel
theorem dX7_consent_100 : decode cX7_consent 100 = .ok (.iadd, 1) := by decide +kernel
theorem dX7_consent_101 : decode cX7_consent 101 = .ok (.iload_n 3, 1) := by decide +kernel
theorem dX7_consent_102 : decode cX7_consent 102 = .ok (.iastore, 1) := by decide +kernel
theorem dX7_consent_103 : decode cX7_consent 103 = .ok (.aload_n 0, 1) := by decide +kernel
theorem dX7_consent_104 : decode cX7_consent 104 = .ok (.getfield 54, 3) := by decide +kernel
theorem dX7_consent_107 : decode cX7_consent 107 = .ok (.bipush 20, 2) := by decide +kernel
theorem dX7_consent_109 : decode cX7_consent 109 = .ok (.iload 5, 2) := by decide +kernel
theorem dX7_consent_111 : decode cX7_consent 111 = .ok (.imul, 1) := by decide +kernel
theorem dX7_consent_112 : decode cX7_consent 112 = .ok (.aload_n 0, 1) := by decide +kernel
theorem dX7_consent_113 : decode cX7_consent 113 = .ok (.getfield 48, 3) := by decide +kernel
theorem dX7_consent_116 : decode cX7_consent 116 = .ok (.iload 5, 2) := by decide +kernel
theorem dX7_consent_118 : decode cX7_consent 118 = .ok (.iaload, 1) := by decide +kernel
theorem dX7_consent_119 : decode cX7_consent 119 = .ok (.iadd, 1) := by decide +kernel
theorem dX7_consent_120 : decode cX7_consent 120 = .ok (.iload 4, 2) := by decide +kernel
theorem dX7_consent_122 : decode cX7_consent 122 = .ok (.bastore, 1) := by decide +kernel
theorem dX7_consent_123 : decode cX7_consent 123 = .ok (.aload_n 0, 1) := by decide +kernel
theorem dX7_consent_124 : decode cX7_consent 124 = .ok (.getfield 48, 3) := by decide +kernel
theorem dX7_consent_127 : decode cX7_consent 127 = .ok (.iload 5, 2) := by decide +kernel
theorem dX7_consent_129 : decode cX7_consent 129 = .ok (.dup2, 1) := by decide +kernel
theorem dX7_consent_130 : decode cX7_consent 130 = .ok (.iaload, 1) := by decide +kernel
theorem dX7_consent_131 : decode cX7_consent 131 = .ok (.iconst 1, 1) := by decide +kernel
theorem dX7_consent_132 : decode cX7_consent 132 = .ok (.iadd, 1) := by decide +kernel
theorem dX7_consent_133 : decode cX7_consent 133 = .ok (.iastore, 1) := by decide +kernel
theorem dX7_consent_134 : decode cX7_consent 134 = .ok (.aload_n 0, 1) := by decide +kernel
theorem dX7_consent_135 : decode cX7_consent 135 = .ok (.getfield 48, 3) := by decide +kernel
theorem dX7_consent_138 : decode cX7_consent 138 = .ok (.iload 5, 2) := by decide +kernel
theorem dX7_consent_140 : decode cX7_consent 140 = .ok (.iaload, 1) := by decide +kernel
theorem dX7_consent_141 : decode cX7_consent 141 = .ok (.ireturn, 1) := by decide +kernel
theorem dX7_counts_0 : decode cX7_counts 0 = .ok (.iconst 4, 1) := by decide +kernel
theorem dX7_counts_1 : decode cX7_counts 1 = .ok (.aload_n 0, 1) := by decide +kernel
theorem dX7_counts_2 : decode cX7_counts 2 = .ok (.getfield 20, 3) := by decide +kernel
theorem dX7_counts_5 : decode cX7_counts 5 = .ok (.iload_n 1, 1) := by decide +kernel
theorem dX7_counts_6 : decode cX7_counts 6 = .ok (.iaload, 1) := by decide +kernel
theorem dX7_counts_7 : decode cX7_counts 7 = .ok (.iconst (-1), 1) := by decide +kernel
theorem dX7_counts_8 : decode cX7_counts 8 = .ok (.if_icmp .ne 15, 3) := by decide +kernel
theorem dX7_counts_11 : decode cX7_counts 11 = .ok (.bipush 10, 2) := by decide +kernel
theorem dX7_counts_13 : decode cX7_counts 13 = .ok (.aload_n 0, 1) := by decide +kernel
theorem dX7_counts_14 : decode cX7_counts 14 = .ok (.getfield 17, 3) := by decide +kernel
theorem dX7_counts_17 : decode cX7_counts 17 = .ok (.iload_n 1, 1) := by decide +kernel
theorem dX7_counts_18 : decode cX7_counts 18 = .ok (.iaload, 1) := by decide +kernel
theorem dX7_counts_19 : decode cX7_counts 19 = .ok (.iadd, 1) := by decide +kernel
theorem dX7_counts_20 : decode cX7_counts 20 = .ok (.goto 9, 3) := by decide +kernel
theorem dX7_counts_23 : decode cX7_counts 23 = .ok (.aload_n 0, 1) := by decide +kernel
theorem dX7_counts_24 : decode cX7_counts 24 = .ok (.getfield 20, 3) := by decide +kernel
theorem dX7_counts_27 : decode cX7_counts 27 = .ok (.iload_n 1, 1) := by decide +kernel
theorem dX7_counts_28 : decode cX7_counts 28 = .ok (.iaload, 1) := by decide +kernel
theorem dX7_counts_29 : decode cX7_counts 29 = .ok (.imul, 1) := by decide +kernel
theorem dX7_counts_30 : decode cX7_counts 30 = .ok (.iload_n 2, 1) := by decide +kernel
theorem dX7_counts_31 : decode cX7_counts 31 = .ok (.iadd, 1) := by decide +kernel
theorem dX7_counts_32 : decode cX7_counts 32 = .ok (.istore_n 3, 1) := by decide +kernel
theorem dX7_counts_33 : decode cX7_counts 33 = .ok (.iconst (-1), 1) := by decide +kernel
theorem dX7_counts_34 : decode cX7_counts 34 = .ok (.istore 4, 2) := by decide +kernel
theorem dX7_counts_36 : decode cX7_counts 36 = .ok (.iconst 0, 1) := by decide +kernel
theorem dX7_counts_37 : decode cX7_counts 37 = .ok (.istore 5, 2) := by decide +kernel
theorem dX7_counts_39 : decode cX7_counts 39 = .ok (.iconst 0, 1) := by decide +kernel
theorem dX7_counts_40 : decode cX7_counts 40 = .ok (.istore 6, 2) := by decide +kernel
theorem dX7_counts_42 : decode cX7_counts 42 = .ok (.iload 6, 2) := by decide +kernel
theorem dX7_counts_44 : decode cX7_counts 44 = .ok (.aload_n 0, 1) := by decide +kernel
theorem dX7_counts_45 : decode cX7_counts 45 = .ok (.getfield 48, 3) := by decide +kernel
theorem dX7_counts_48 : decode cX7_counts 48 = .ok (.iload_n 3, 1) := by decide +kernel
theorem dX7_counts_49 : decode cX7_counts 49 = .ok (.iaload, 1) := by decide +kernel
theorem dX7_counts_50 : decode cX7_counts 50 = .ok (.if_icmp .ge 58, 3) := by decide +kernel
theorem dX7_counts_53 : decode cX7_counts 53 = .ok (.aload_n 0, 1) := by decide +kernel
theorem dX7_counts_54 : decode cX7_counts 54 = .ok (.getfield 51, 3) := by decide +kernel
theorem dX7_counts_57 : decode cX7_counts 57 = .ok (.bipush 20, 2) := by decide +kernel
theorem dX7_counts_59 : decode cX7_counts 59 = .ok (.iload_n 3, 1) := by decide +kernel
theorem dX7_counts_60 : decode cX7_counts 60 = .ok (.imul, 1) := by decide +kernel
theorem dX7_counts_61 : decode cX7_counts 61 = .ok (.iload 6, 2) := by decide +kernel
theorem dX7_counts_63 : decode cX7_counts 63 = .ok (.iadd, 1) := by decide +kernel
theorem dX7_counts_64 : decode cX7_counts 64 = .ok (.iaload, 1) := by decide +kernel
theorem dX7_counts_65 : decode cX7_counts 65 = .ok (.istore 7, 2) := by decide +kernel
theorem dX7_counts_67 : decode cX7_counts 67 = .ok (.iload 7, 2) := by decide +kernel
theorem dX7_counts_69 : decode cX7_counts 69 = .ok (.aload_n 0, 1) := by decide +kernel
theorem dX7_counts_70 : decode cX7_counts 70 = .ok (.iload_n 1, 1) := by decide +kernel
theorem dX7_counts_71 : decode cX7_counts 71 = .ok (.invokevirtual 109, 3) := by decide +kernel
theorem dX7_counts_74 : decode cX7_counts 74 = .ok (.if_icmp .gt 28, 3) := by decide +kernel
theorem dX7_counts_77 : decode cX7_counts 77 = .ok (.iload 7, 2) := by decide +kernel
theorem dX7_counts_79 : decode cX7_counts 79 = .ok (.iload 4, 2) := by decide +kernel
theorem dX7_counts_81 : decode cX7_counts 81 = .ok (.if_icmp .lt 21, 3) := by decide +kernel
theorem dX7_counts_84 : decode cX7_counts 84 = .ok (.iload 7, 2) := by decide +kernel
theorem dX7_counts_86 : decode cX7_counts 86 = .ok (.istore 4, 2) := by decide +kernel
theorem dX7_counts_88 : decode cX7_counts 88 = .ok (.aload_n 0, 1) := by decide +kernel
theorem dX7_counts_89 : decode cX7_counts 89 = .ok (.getfield 54, 3) := by decide +kernel
theorem dX7_counts_92 : decode cX7_counts 92 = .ok (.bipush 20, 2) := by decide +kernel
theorem dX7_counts_94 : decode cX7_counts 94 = .ok (.iload_n 3, 1) := by decide +kernel
theorem dX7_counts_95 : decode cX7_counts 95 = .ok (.imul, 1) := by decide +kernel
theorem dX7_counts_96 : decode cX7_counts 96 = .ok (.iload 6, 2) := by decide +kernel
theorem dX7_counts_98 : decode cX7_counts 98 = .ok (.iadd, 1) := by decide +kernel
theorem dX7_counts_99 : decode cX7_counts 99 = .ok (.baload, 1) := by decide +kernel
theorem dX7_counts_100 : decode cX7_counts 100 = .ok (.istore 5, 2) := by decide +kernel
theorem dX7_counts_102 : decode cX7_counts 102 = .ok (.iinc 6 1, 3) := by decide +kernel
theorem dX7_counts_105 : decode cX7_counts 105 = .ok (.goto (-63), 3) := by decide +kernel
theorem dX7_counts_108 : decode cX7_counts 108 = .ok (.iload 5, 2) := by decide +kernel
theorem dX7_counts_110 : decode cX7_counts 110 = .ok (.ireturn, 1) := by decide +kernel
theorem dX7_sum_0 : decode cX7_sum 0 = .ok (.iconst 0, 1) := by decide +kernel
theorem dX7_sum_1 : decode cX7_sum 1 = .ok (.istore 6, 2) := by decide +kernel
theorem dX7_sum_3 : decode cX7_sum 3 = .ok (.iconst 0, 1) := by decide +kernel
theorem dX7_sum_4 : decode cX7_sum 4 = .ok (.istore 7, 2) := by decide +kernel
theorem dX7_sum_6 : decode cX7_sum 6 = .ok (.iload 7, 2) := by decide +kernel
theorem dX7_sum_8 : decode cX7_sum 8 = .ok (.aload_n 0, 1) := by decide +kernel
theorem dX7_sum_9 : decode cX7_sum 9 = .ok (.getfield 89, 3) := by decide +kernel
theorem dX7_sum_12 : decode cX7_sum 12 = .ok (.if_icmp .ge 91, 3) := by decide +kernel
theorem dX7_sum_15 : decode cX7_sum 15 = .ok (.aload_n 0, 1) := by decide +kernel
theorem dX7_sum_16 : decode cX7_sum 16 = .ok (.iload 7, 2) := by decide +kernel
theorem dX7_sum_18 : decode cX7_sum 18 = .ok (.iload_n 1, 1) := by decide +kernel
theorem dX7_sum_19 : decode cX7_sum 19 = .ok (.invokevirtual 112, 3) := by decide +kernel
theorem dX7_sum_22 : decode cX7_sum 22 = .ok (.ifCond .eq 47, 3) := by decide +kernel
theorem dX7_sum_25 : decode cX7_sum 25 = .ok (.aload_n 0, 1) := by decide +kernel
theorem dX7_sum_26 : decode cX7_sum 26 = .ok (.getfield 23, 3) := by decide +kernel
theorem dX7_sum_29 : decode cX7_sum 29 = .ok (.iload 7, 2) := by decide +kernel
theorem dX7_sum_31 : decode cX7_sum 31 = .ok (.iaload, 1) := by decide +kernel
theorem dX7_sum_32 : decode cX7_sum 32 = .ok (.iload_n 3, 1) := by decide +kernel
theorem dX7_sum_33 : decode cX7_sum 33 = .ok (.if_icmp .ne 36, 3) := by decide +kernel
theorem dX7_sum_36 : decode cX7_sum 36 = .ok (.aload_n 0, 1) := by decide +kernel
theorem dX7_sum_37 : decode cX7_sum 37 = .ok (.iload 7, 2) := by decide +kernel
theorem dX7_sum_39 : decode cX7_sum 39 = .ok (.invokevirtual 109, 3) := by decide +kernel
theorem dX7_sum_42 : decode cX7_sum 42 = .ok (.iload 4, 2) := by decide +kernel
theorem dX7_sum_44 : decode cX7_sum 44 = .ok (.if_icmp .gt 25, 3) := by decide +kernel
theorem dX7_sum_47 : decode cX7_sum 47 = .ok (.aload_n 0, 1) := by decide +kernel
theorem dX7_sum_48 : decode cX7_sum 48 = .ok (.iload 7, 2) := by decide +kernel
theorem dX7_sum_50 : decode cX7_sum 50 = .ok (.invokevirtual 109, 3) := by decide +kernel
theorem dX7_sum_53 : decode cX7_sum 53 = .ok (.iload 4, 2) := by decide +kernel
theorem dX7_sum_55 : decode cX7_sum 55 = .ok (.sipush 1440, 3) := by decide +kernel
theorem dX7_sum_58 : decode cX7_sum 58 = .ok (.iload 5, 2) := by decide +kernel
theorem dX7_sum_60 : decode cX7_sum 60 = .ok (.imul, 1) := by decide +kernel
theorem dX7_sum_61 : decode cX7_sum 61 = .ok (.isub, 1) := by decide +kernel
theorem dX7_sum_62 : decode cX7_sum 62 = .ok (.if_icmp .le 7, 3) := by decide +kernel
theorem dX7_sum_65 : decode cX7_sum 65 = .ok (.iconst 1, 1) := by decide +kernel
theorem dX7_sum_66 : decode cX7_sum 66 = .ok (.goto 4, 3) := by decide +kernel
theorem dX7_sum_69 : decode cX7_sum 69 = .ok (.iconst 0, 1) := by decide +kernel
theorem dX7_sum_70 : decode cX7_sum 70 = .ok (.istore 8, 2) := by decide +kernel
theorem dX7_sum_72 : decode cX7_sum 72 = .ok (.iload 6, 2) := by decide +kernel
theorem dX7_sum_74 : decode cX7_sum 74 = .ok (.iload 8, 2) := by decide +kernel
theorem dX7_sum_76 : decode cX7_sum 76 = .ok (.ifCond .eq 17, 3) := by decide +kernel
theorem dX7_sum_79 : decode cX7_sum 79 = .ok (.aload_n 0, 1) := by decide +kernel
theorem dX7_sum_80 : decode cX7_sum 80 = .ok (.iload 7, 2) := by decide +kernel
theorem dX7_sum_82 : decode cX7_sum 82 = .ok (.iload_n 2, 1) := by decide +kernel
theorem dX7_sum_83 : decode cX7_sum 83 = .ok (.invokevirtual 130, 3) := by decide +kernel
theorem dX7_sum_86 : decode cX7_sum 86 = .ok (.ifCond .eq 7, 3) := by decide +kernel
theorem dX7_sum_89 : decode cX7_sum 89 = .ok (.iconst 1, 1) := by decide +kernel
theorem dX7_sum_90 : decode cX7_sum 90 = .ok (.goto 4, 3) := by decide +kernel
theorem dX7_sum_93 : decode cX7_sum 93 = .ok (.iconst 0, 1) := by decide +kernel
theorem dX7_sum_94 : decode cX7_sum 94 = .ok (.iadd, 1) := by decide +kernel
theorem dX7_sum_95 : decode cX7_sum 95 = .ok (.istore 6, 2) := by decide +kernel
theorem dX7_sum_97 : decode cX7_sum 97 = .ok (.iinc 7 1, 3) := by decide +kernel
theorem dX7_sum_100 : decode cX7_sum 100 = .ok (.goto (-94), 3) := by decide +kernel
theorem dX7_sum_103 : decode cX7_sum 103 = .ok (.iload 6, 2) := by decide +kernel
theorem dX7_sum_105 : decode cX7_sum 105 = .ok (.ireturn, 1) := by decide +kernel
theorem dX7_counted_0 : decode cX7_counted 0 = .ok (.aload_n 0, 1) := by decide +kernel
theorem dX7_counted_1 : decode cX7_counted 1 = .ok (.aload_n 0, 1) := by decide +kernel
theorem dX7_counted_2 : decode cX7_counted 2 = .ok (.iload_n 1, 1) := by decide +kernel
theorem dX7_counted_3 : decode cX7_counted 3 = .ok (.invokevirtual 100, 3) := by decide +kernel
theorem dX7_counted_6 : decode cX7_counted 6 = .ok (.ifCond .eq 47, 3) := by decide +kernel
theorem dX7_counted_9 : decode cX7_counted 9 = .ok (.iload_n 2, 1) := by decide +kernel
theorem dX7_counted_10 : decode cX7_counted 10 = .ok (.iconst 0, 1) := by decide +kernel
theorem dX7_counted_11 : decode cX7_counted 11 = .ok (.iconst 3, 1) := by decide +kernel
theorem dX7_counted_12 : decode cX7_counted 12 = .ok (.invokestatic 84, 3) := by decide +kernel
theorem dX7_counted_15 : decode cX7_counted 15 = .ok (.ifCond .eq 38, 3) := by decide +kernel
theorem dX7_counted_18 : decode cX7_counted 18 = .ok (.iload_n 3, 1) := by decide +kernel
theorem dX7_counted_19 : decode cX7_counted 19 = .ok (.iconst 0, 1) := by decide +kernel
theorem dX7_counted_20 : decode cX7_counted 20 = .ok (.iconst 4, 1) := by decide +kernel
theorem dX7_counted_21 : decode cX7_counted 21 = .ok (.invokestatic 84, 3) := by decide +kernel
theorem dX7_counted_24 : decode cX7_counted 24 = .ok (.ifCond .eq 29, 3) := by decide +kernel
theorem dX7_counted_27 : decode cX7_counted 27 = .ok (.iload 4, 2) := by decide +kernel
theorem dX7_counted_29 : decode cX7_counted 29 = .ok (.iconst 0, 1) := by decide +kernel
theorem dX7_counted_30 : decode cX7_counted 30 = .ok (.ldc 88, 2) := by decide +kernel
theorem dX7_counted_32 : decode cX7_counted 32 = .ok (.invokestatic 84, 3) := by decide +kernel
theorem dX7_counted_35 : decode cX7_counted 35 = .ok (.ifCond .eq 18, 3) := by decide +kernel
theorem dX7_counted_38 : decode cX7_counted 38 = .ok (.iload 5, 2) := by decide +kernel
theorem dX7_counted_40 : decode cX7_counted 40 = .ok (.iconst 1, 1) := by decide +kernel
theorem dX7_counted_41 : decode cX7_counted 41 = .ok (.bipush 30, 2) := by decide +kernel
theorem dX7_counted_43 : decode cX7_counted 43 = .ok (.invokestatic 84, 3) := by decide +kernel
theorem dX7_counted_46 : decode cX7_counted 46 = .ok (.ifCond .eq 7, 3) := by decide +kernel
theorem dX7_counted_49 : decode cX7_counted 49 = .ok (.iconst 0, 1) := by decide +kernel
theorem dX7_counted_50 : decode cX7_counted 50 = .ok (.goto 4, 3) := by decide +kernel
theorem dX7_counted_53 : decode cX7_counted 53 = .ok (.iconst 1, 1) := by decide +kernel
theorem dX7_counted_54 : decode cX7_counted 54 = .ok (.putfield 81, 3) := by decide +kernel
theorem dX7_counted_57 : decode cX7_counted 57 = .ok (.aload_n 0, 1) := by decide +kernel
theorem dX7_counted_58 : decode cX7_counted 58 = .ok (.getfield 81, 3) := by decide +kernel
theorem dX7_counted_61 : decode cX7_counted 61 = .ok (.ifCond .le 5, 3) := by decide +kernel
theorem dX7_counted_64 : decode cX7_counted 64 = .ok (.iconst 0, 1) := by decide +kernel
theorem dX7_counted_65 : decode cX7_counted 65 = .ok (.ireturn, 1) := by decide +kernel
theorem dX7_counted_66 : decode cX7_counted 66 = .ok (.aload_n 0, 1) := by decide +kernel
theorem dX7_counted_67 : decode cX7_counted 67 = .ok (.invokevirtual 103, 3) := by decide +kernel
theorem dX7_counted_70 : decode cX7_counted 70 = .ok (.aload_n 0, 1) := by decide +kernel
theorem dX7_counted_71 : decode cX7_counted 71 = .ok (.iload_n 1, 1) := by decide +kernel
theorem dX7_counted_72 : decode cX7_counted 72 = .ok (.iload_n 2, 1) := by decide +kernel
theorem dX7_counted_73 : decode cX7_counted 73 = .ok (.iload_n 3, 1) := by decide +kernel
theorem dX7_counted_74 : decode cX7_counted 74 = .ok (.iload 4, 2) := by decide +kernel
theorem dX7_counted_76 : decode cX7_counted 76 = .ok (.iload 5, 2) := by decide +kernel
theorem dX7_counted_78 : decode cX7_counted 78 = .ok (.invokevirtual 133, 3) := by decide +kernel
theorem dX7_counted_81 : decode cX7_counted 81 = .ok (.ireturn, 1) := by decide +kernel
theorem dX7_group_0 : decode cX7_group 0 = .ok (.iload_n 1, 1) := by decide +kernel
theorem dX7_group_1 : decode cX7_group 1 = .ok (.iconst 0, 1) := by decide +kernel
theorem dX7_group_2 : decode cX7_group 2 = .ok (.iconst 3, 1) := by decide +kernel
theorem dX7_group_3 : decode cX7_group 3 = .ok (.invokestatic 84, 3) := by decide +kernel
theorem dX7_group_6 : decode cX7_group 6 = .ok (.ifCond .eq 37, 3) := by decide +kernel
theorem dX7_group_9 : decode cX7_group 9 = .ok (.iload_n 2, 1) := by decide +kernel
theorem dX7_group_10 : decode cX7_group 10 = .ok (.iconst 0, 1) := by decide +kernel
theorem dX7_group_11 : decode cX7_group 11 = .ok (.iconst 4, 1) := by decide +kernel
theorem dX7_group_12 : decode cX7_group 12 = .ok (.invokestatic 84, 3) := by decide +kernel
theorem dX7_group_15 : decode cX7_group 15 = .ok (.ifCond .eq 28, 3) := by decide +kernel
theorem dX7_group_18 : decode cX7_group 18 = .ok (.iload_n 3, 1) := by decide +kernel
theorem dX7_group_19 : decode cX7_group 19 = .ok (.iconst 1, 1) := by decide +kernel
theorem dX7_group_20 : decode cX7_group 20 = .ok (.bipush 20, 2) := by decide +kernel
theorem dX7_group_22 : decode cX7_group 22 = .ok (.invokestatic 84, 3) := by decide +kernel
theorem dX7_group_25 : decode cX7_group 25 = .ok (.ifCond .eq 18, 3) := by decide +kernel
theorem dX7_group_28 : decode cX7_group 28 = .ok (.iload 4, 2) := by decide +kernel
theorem dX7_group_30 : decode cX7_group 30 = .ok (.iconst 1, 1) := by decide +kernel
theorem dX7_group_31 : decode cX7_group 31 = .ok (.bipush 30, 2) := by decide +kernel
theorem dX7_group_33 : decode cX7_group 33 = .ok (.invokestatic 84, 3) := by decide +kernel
theorem dX7_group_36 : decode cX7_group 36 = .ok (.ifCond .eq 7, 3) := by decide +kernel
theorem dX7_group_39 : decode cX7_group 39 = .ok (.iconst 1, 1) := by decide +kernel
theorem dX7_group_40 : decode cX7_group 40 = .ok (.goto 4, 3) := by decide +kernel
theorem dX7_group_43 : decode cX7_group 43 = .ok (.iconst 0, 1) := by decide +kernel
theorem dX7_group_44 : decode cX7_group 44 = .ok (.istore 5, 2) := by decide +kernel
theorem dX7_group_46 : decode cX7_group 46 = .ok (.aload_n 0, 1) := by decide +kernel
theorem dX7_group_47 : decode cX7_group 47 = .ok (.iload 5, 2) := by decide +kernel
theorem dX7_group_49 : decode cX7_group 49 = .ok (.ifCond .ne 7, 3) := by decide +kernel
theorem dX7_group_52 : decode cX7_group 52 = .ok (.iconst 1, 1) := by decide +kernel
theorem dX7_group_53 : decode cX7_group 53 = .ok (.goto 17, 3) := by decide +kernel
theorem dX7_group_56 : decode cX7_group 56 = .ok (.aload_n 0, 1) := by decide +kernel
theorem dX7_group_57 : decode cX7_group 57 = .ok (.getfield 137, 3) := by decide +kernel
theorem dX7_group_60 : decode cX7_group 60 = .ok (.bipush 8, 2) := by decide +kernel
theorem dX7_group_62 : decode cX7_group 62 = .ok (.if_icmp .ne 7, 3) := by decide +kernel
theorem dX7_group_65 : decode cX7_group 65 = .ok (.iconst 2, 1) := by decide +kernel
theorem dX7_group_66 : decode cX7_group 66 = .ok (.goto 4, 3) := by decide +kernel
theorem dX7_group_69 : decode cX7_group 69 = .ok (.iconst 0, 1) := by decide +kernel
theorem dX7_group_70 : decode cX7_group 70 = .ok (.putfield 81, 3) := by decide +kernel
theorem dX7_group_73 : decode cX7_group 73 = .ok (.aload_n 0, 1) := by decide +kernel
theorem dX7_group_74 : decode cX7_group 74 = .ok (.getfield 81, 3) := by decide +kernel
theorem dX7_group_77 : decode cX7_group 77 = .ok (.ifCond .le 5, 3) := by decide +kernel
theorem dX7_group_80 : decode cX7_group 80 = .ok (.iconst 0, 1) := by decide +kernel
theorem dX7_group_81 : decode cX7_group 81 = .ok (.ireturn, 1) := by decide +kernel
theorem dX7_group_82 : decode cX7_group 82 = .ok (.aload_n 0, 1) := by decide +kernel
theorem dX7_group_83 : decode cX7_group 83 = .ok (.getfield 57, 3) := by decide +kernel
theorem dX7_group_86 : decode cX7_group 86 = .ok (.aload_n 0, 1) := by decide +kernel
theorem dX7_group_87 : decode cX7_group 87 = .ok (.getfield 137, 3) := by decide +kernel
theorem dX7_group_90 : decode cX7_group 90 = .ok (.iload_n 1, 1) := by decide +kernel
theorem dX7_group_91 : decode cX7_group 91 = .ok (.iastore, 1) := by decide +kernel
theorem dX7_group_92 : decode cX7_group 92 = .ok (.aload_n 0, 1) := by decide +kernel
theorem dX7_group_93 : decode cX7_group 93 = .ok (.getfield 60, 3) := by decide +kernel
theorem dX7_group_96 : decode cX7_group 96 = .ok (.aload_n 0, 1) := by decide +kernel
theorem dX7_group_97 : decode cX7_group 97 = .ok (.getfield 137, 3) := by decide +kernel
theorem dX7_group_100 : decode cX7_group 100 = .ok (.iload_n 2, 1) := by decide +kernel
theorem dX7_group_101 : decode cX7_group 101 = .ok (.iastore, 1) := by decide +kernel
theorem dX7_group_102 : decode cX7_group 102 = .ok (.aload_n 0, 1) := by decide +kernel
theorem dX7_group_103 : decode cX7_group 103 = .ok (.getfield 63, 3) := by decide +kernel
theorem dX7_group_106 : decode cX7_group 106 = .ok (.aload_n 0, 1) := by decide +kernel
theorem dX7_group_107 : decode cX7_group 107 = .ok (.getfield 137, 3) := by decide +kernel
theorem dX7_group_110 : decode cX7_group 110 = .ok (.iload_n 3, 1) := by decide +kernel
theorem dX7_group_111 : decode cX7_group 111 = .ok (.iastore, 1) := by decide +kernel
theorem dX7_group_112 : decode cX7_group 112 = .ok (.aload_n 0, 1) := by decide +kernel
theorem dX7_group_113 : decode cX7_group 113 = .ok (.getfield 66, 3) := by decide +kernel
theorem dX7_group_116 : decode cX7_group 116 = .ok (.aload_n 0, 1) := by decide +kernel
theorem dX7_group_117 : decode cX7_group 117 = .ok (.getfield 137, 3) := by decide +kernel
theorem dX7_group_120 : decode cX7_group 120 = .ok (.iload 4, 2) := by decide +kernel
theorem dX7_group_122 : decode cX7_group 122 = .ok (.iastore, 1) := by decide +kernel
theorem dX7_group_123 : decode cX7_group 123 = .ok (.aload_n 0, 1) := by decide +kernel
theorem dX7_group_124 : decode cX7_group 124 = .ok (.dup, 1) := by decide +kernel
theorem dX7_group_125 : decode cX7_group 125 = .ok (.getfield 137, 3) := by decide +kernel
theorem dX7_group_128 : decode cX7_group 128 = .ok (.iconst 1, 1) := by decide +kernel
theorem dX7_group_129 : decode cX7_group 129 = .ok (.iadd, 1) := by decide +kernel
theorem dX7_group_130 : decode cX7_group 130 = .ok (.putfield 137, 3) := by decide +kernel
theorem dX7_group_133 : decode cX7_group 133 = .ok (.aload_n 0, 1) := by decide +kernel
theorem dX7_group_134 : decode cX7_group 134 = .ok (.getfield 137, 3) := by decide +kernel
theorem dX7_group_137 : decode cX7_group 137 = .ok (.iconst 1, 1) := by decide +kernel
theorem dX7_group_138 : decode cX7_group 138 = .ok (.isub, 1) := by decide +kernel
theorem dX7_group_139 : decode cX7_group 139 = .ok (.ireturn, 1) := by decide +kernel
theorem dX7_isMember_0 : decode cX7_isMember 0 = .ok (.aload_n 0, 1) := by decide +kernel
theorem dX7_isMember_1 : decode cX7_isMember 1 = .ok (.iload_n 1, 1) := by decide +kernel
theorem dX7_isMember_2 : decode cX7_isMember 2 = .ok (.aload_n 0, 1) := by decide +kernel
theorem dX7_isMember_3 : decode cX7_isMember 3 = .ok (.getfield 57, 3) := by decide +kernel
theorem dX7_isMember_6 : decode cX7_isMember 6 = .ok (.iload_n 2, 1) := by decide +kernel
theorem dX7_isMember_7 : decode cX7_isMember 7 = .ok (.iaload, 1) := by decide +kernel
theorem dX7_isMember_8 : decode cX7_isMember 8 = .ok (.aload_n 0, 1) := by decide +kernel
theorem dX7_isMember_9 : decode cX7_isMember 9 = .ok (.getfield 60, 3) := by decide +kernel
theorem dX7_isMember_12 : decode cX7_isMember 12 = .ok (.iload_n 2, 1) := by decide +kernel
theorem dX7_isMember_13 : decode cX7_isMember 13 = .ok (.iaload, 1) := by decide +kernel
theorem dX7_isMember_14 : decode cX7_isMember 14 = .ok (.aload_n 0, 1) := by decide +kernel
theorem dX7_isMember_15 : decode cX7_isMember 15 = .ok (.getfield 7, 3) := by decide +kernel
theorem dX7_isMember_18 : decode cX7_isMember 18 = .ok (.aload_n 0, 1) := by decide +kernel
theorem dX7_isMember_19 : decode cX7_isMember 19 = .ok (.getfield 66, 3) := by decide +kernel
theorem dX7_isMember_22 : decode cX7_isMember 22 = .ok (.iload_n 2, 1) := by decide +kernel
theorem dX7_isMember_23 : decode cX7_isMember 23 = .ok (.iaload, 1) := by decide +kernel
theorem dX7_isMember_24 : decode cX7_isMember 24 = .ok (.invokevirtual 133, 3) := by decide +kernel
theorem dX7_isMember_27 : decode cX7_isMember 27 = .ok (.aload_n 0, 1) := by decide +kernel
theorem dX7_isMember_28 : decode cX7_isMember 28 = .ok (.getfield 63, 3) := by decide +kernel
theorem dX7_isMember_31 : decode cX7_isMember 31 = .ok (.iload_n 2, 1) := by decide +kernel
theorem dX7_isMember_32 : decode cX7_isMember 32 = .ok (.iaload, 1) := by decide +kernel
theorem dX7_isMember_33 : decode cX7_isMember 33 = .ok (.if_icmp .lt 7, 3) := by decide +kernel
theorem dX7_isMember_36 : decode cX7_isMember 36 = .ok (.iconst 1, 1) := by decide +kernel
theorem dX7_isMember_37 : decode cX7_isMember 37 = .ok (.goto 4, 3) := by decide +kernel
theorem dX7_isMember_40 : decode cX7_isMember 40 = .ok (.iconst 0, 1) := by decide +kernel
theorem dX7_isMember_41 : decode cX7_isMember 41 = .ok (.ireturn, 1) := by decide +kernel
theorem dX7_groups_0 : decode cX7_groups 0 = .ok (.aload_n 0, 1) := by decide +kernel
theorem dX7_groups_1 : decode cX7_groups 1 = .ok (.aload_n 0, 1) := by decide +kernel
theorem dX7_groups_2 : decode cX7_groups 2 = .ok (.iload_n 1, 1) := by decide +kernel
theorem dX7_groups_3 : decode cX7_groups 3 = .ok (.invokevirtual 100, 3) := by decide +kernel
theorem dX7_groups_6 : decode cX7_groups 6 = .ok (.ifCond .eq 7, 3) := by decide +kernel
theorem dX7_groups_9 : decode cX7_groups 9 = .ok (.iconst 0, 1) := by decide +kernel
theorem dX7_groups_10 : decode cX7_groups 10 = .ok (.goto 4, 3) := by decide +kernel
theorem dX7_groups_13 : decode cX7_groups 13 = .ok (.iconst 1, 1) := by decide +kernel
theorem dX7_groups_14 : decode cX7_groups 14 = .ok (.putfield 81, 3) := by decide +kernel
theorem dX7_groups_17 : decode cX7_groups 17 = .ok (.aload_n 0, 1) := by decide +kernel
theorem dX7_groups_18 : decode cX7_groups 18 = .ok (.getfield 81, 3) := by decide +kernel
theorem dX7_groups_21 : decode cX7_groups 21 = .ok (.ifCond .le 5, 3) := by decide +kernel
theorem dX7_groups_24 : decode cX7_groups 24 = .ok (.iconst 0, 1) := by decide +kernel
theorem dX7_groups_25 : decode cX7_groups 25 = .ok (.ireturn, 1) := by decide +kernel
theorem dX7_groups_26 : decode cX7_groups 26 = .ok (.aload_n 0, 1) := by decide +kernel
theorem dX7_groups_27 : decode cX7_groups 27 = .ok (.invokevirtual 103, 3) := by decide +kernel
theorem dX7_groups_30 : decode cX7_groups 30 = .ok (.iconst 0, 1) := by decide +kernel
theorem dX7_groups_31 : decode cX7_groups 31 = .ok (.istore_n 2, 1) := by decide +kernel
theorem dX7_groups_32 : decode cX7_groups 32 = .ok (.iconst 0, 1) := by decide +kernel
theorem dX7_groups_33 : decode cX7_groups 33 = .ok (.istore_n 3, 1) := by decide +kernel
theorem dX7_groups_34 : decode cX7_groups 34 = .ok (.iload_n 3, 1) := by decide +kernel
theorem dX7_groups_35 : decode cX7_groups 35 = .ok (.aload_n 0, 1) := by decide +kernel
theorem dX7_groups_36 : decode cX7_groups 36 = .ok (.getfield 137, 3) := by decide +kernel
theorem dX7_groups_39 : decode cX7_groups 39 = .ok (.if_icmp .ge 28, 3) := by decide +kernel
theorem dX7_groups_42 : decode cX7_groups 42 = .ok (.iload_n 2, 1) := by decide +kernel
theorem dX7_groups_43 : decode cX7_groups 43 = .ok (.aload_n 0, 1) := by decide +kernel
theorem dX7_groups_44 : decode cX7_groups 44 = .ok (.iload_n 1, 1) := by decide +kernel
theorem dX7_groups_45 : decode cX7_groups 45 = .ok (.iload_n 3, 1) := by decide +kernel
theorem dX7_groups_46 : decode cX7_groups 46 = .ok (.invokevirtual 140, 3) := by decide +kernel
theorem dX7_groups_49 : decode cX7_groups 49 = .ok (.ifCond .eq 9, 3) := by decide +kernel
theorem dX7_groups_52 : decode cX7_groups 52 = .ok (.iconst 1, 1) := by decide +kernel
theorem dX7_groups_53 : decode cX7_groups 53 = .ok (.iload_n 3, 1) := by decide +kernel
theorem dX7_groups_54 : decode cX7_groups 54 = .ok (.ishl, 1) := by decide +kernel
theorem dX7_groups_55 : decode cX7_groups 55 = .ok (.goto 4, 3) := by decide +kernel
theorem dX7_groups_58 : decode cX7_groups 58 = .ok (.iconst 0, 1) := by decide +kernel
theorem dX7_groups_59 : decode cX7_groups 59 = .ok (.ior, 1) := by decide +kernel
theorem dX7_groups_60 : decode cX7_groups 60 = .ok (.istore_n 2, 1) := by decide +kernel
theorem dX7_groups_61 : decode cX7_groups 61 = .ok (.iinc 3 1, 3) := by decide +kernel
theorem dX7_groups_64 : decode cX7_groups 64 = .ok (.goto (-30), 3) := by decide +kernel
theorem dX7_groups_67 : decode cX7_groups 67 = .ok (.iload_n 2, 1) := by decide +kernel
theorem dX7_groups_68 : decode cX7_groups 68 = .ok (.ireturn, 1) := by decide +kernel
theorem dX7_tell_0 : decode cX7_tell 0 = .ok (.aload_n 0, 1) := by decide +kernel
theorem dX7_tell_1 : decode cX7_tell 1 = .ok (.iconst 0, 1) := by decide +kernel
theorem dX7_tell_2 : decode cX7_tell 2 = .ok (.putfield 81, 3) := by decide +kernel
theorem dX7_tell_5 : decode cX7_tell 5 = .ok (.aload_n 0, 1) := by decide +kernel
theorem dX7_tell_6 : decode cX7_tell 6 = .ok (.invokevirtual 103, 3) := by decide +kernel
theorem dX7_tell_9 : decode cX7_tell 9 = .ok (.aload_n 0, 1) := by decide +kernel
theorem dX7_tell_10 : decode cX7_tell 10 = .ok (.iconst 0, 1) := by decide +kernel
theorem dX7_tell_11 : decode cX7_tell 11 = .ok (.putfield 143, 3) := by decide +kernel
theorem dX7_tell_14 : decode cX7_tell 14 = .ok (.iconst 0, 1) := by decide +kernel
theorem dX7_tell_15 : decode cX7_tell 15 = .ok (.istore_n 1, 1) := by decide +kernel
theorem dX7_tell_16 : decode cX7_tell 16 = .ok (.iload_n 1, 1) := by decide +kernel
theorem dX7_tell_17 : decode cX7_tell 17 = .ok (.aload_n 0, 1) := by decide +kernel
theorem dX7_tell_18 : decode cX7_tell 18 = .ok (.getfield 137, 3) := by decide +kernel
theorem dX7_tell_21 : decode cX7_tell 21 = .ok (.if_icmp .ge 112, 3) := by decide +kernel
theorem dX7_tell_24 : decode cX7_tell 24 = .ok (.iconst 0, 1) := by decide +kernel
theorem dX7_tell_25 : decode cX7_tell 25 = .ok (.istore_n 2, 1) := by decide +kernel
theorem dX7_tell_26 : decode cX7_tell 26 = .ok (.iload_n 2, 1) := by decide +kernel
theorem dX7_tell_27 : decode cX7_tell 27 = .ok (.bipush 20, 2) := by decide +kernel
theorem dX7_tell_29 : decode cX7_tell 29 = .ok (.if_icmp .ge 98, 3) := by decide +kernel
theorem dX7_tell_32 : decode cX7_tell 32 = .ok (.aload_n 0, 1) := by decide +kernel
theorem dX7_tell_33 : decode cX7_tell 33 = .ok (.getfield 69, 3) := by decide +kernel
theorem dX7_tell_36 : decode cX7_tell 36 = .ok (.bipush 20, 2) := by decide +kernel
theorem dX7_tell_38 : decode cX7_tell 38 = .ok (.iload_n 1, 1) := by decide +kernel
theorem dX7_tell_39 : decode cX7_tell 39 = .ok (.imul, 1) := by decide +kernel
theorem dX7_tell_40 : decode cX7_tell 40 = .ok (.iload_n 2, 1) := by decide +kernel
theorem dX7_tell_41 : decode cX7_tell 41 = .ok (.iadd, 1) := by decide +kernel
theorem dX7_tell_42 : decode cX7_tell 42 = .ok (.baload, 1) := by decide +kernel
theorem dX7_tell_43 : decode cX7_tell 43 = .ok (.istore_n 3, 1) := by decide +kernel
theorem dX7_tell_44 : decode cX7_tell 44 = .ok (.aload_n 0, 1) := by decide +kernel
theorem dX7_tell_45 : decode cX7_tell 45 = .ok (.iload_n 2, 1) := by decide +kernel
theorem dX7_tell_46 : decode cX7_tell 46 = .ok (.iload_n 1, 1) := by decide +kernel
theorem dX7_tell_47 : decode cX7_tell 47 = .ok (.invokevirtual 140, 3) := by decide +kernel
theorem dX7_tell_50 : decode cX7_tell 50 = .ok (.istore 4, 2) := by decide +kernel
theorem dX7_tell_52 : decode cX7_tell 52 = .ok (.iload 4, 2) := by decide +kernel
theorem dX7_tell_54 : decode cX7_tell 54 = .ok (.iload_n 3, 1) := by decide +kernel
theorem dX7_tell_55 : decode cX7_tell 55 = .ok (.if_icmp .eq 66, 3) := by decide +kernel
theorem dX7_tell_58 : decode cX7_tell 58 = .ok (.iload_n 3, 1) := by decide +kernel
theorem dX7_tell_59 : decode cX7_tell 59 = .ok (.ifCond .ne 12, 3) := by decide +kernel
theorem dX7_tell_62 : decode cX7_tell 62 = .ok (.aload_n 0, 1) := by decide +kernel
theorem dX7_tell_63 : decode cX7_tell 63 = .ok (.getfield 72, 3) := by decide +kernel
theorem dX7_tell_66 : decode cX7_tell 66 = .ok (.iload_n 2, 1) := by decide +kernel
theorem dX7_tell_67 : decode cX7_tell 67 = .ok (.baload, 1) := by decide +kernel
theorem dX7_tell_68 : decode cX7_tell 68 = .ok (.ifCond .eq 53, 3) := by decide +kernel
theorem dX7_tell_71 : decode cX7_tell 71 = .ok (.aload_n 0, 1) := by decide +kernel
theorem dX7_tell_72 : decode cX7_tell 72 = .ok (.getfield 75, 3) := by decide +kernel
theorem dX7_tell_75 : decode cX7_tell 75 = .ok (.aload_n 0, 1) := by decide +kernel
theorem dX7_tell_76 : decode cX7_tell 76 = .ok (.getfield 143, 3) := by decide +kernel
theorem dX7_tell_79 : decode cX7_tell 79 = .ok (.bipush 100, 2) := by decide +kernel
theorem dX7_tell_81 : decode cX7_tell 81 = .ok (.iload_n 1, 1) := by decide +kernel
theorem dX7_tell_82 : decode cX7_tell 82 = .ok (.imul, 1) := by decide +kernel
theorem dX7_tell_83 : decode cX7_tell 83 = .ok (.iload_n 2, 1) := by decide +kernel
theorem dX7_tell_84 : decode cX7_tell 84 = .ok (.iadd, 1) := by decide +kernel
theorem dX7_tell_85 : decode cX7_tell 85 = .ok (.iload_n 3, 1) := by decide +kernel
theorem dX7_tell_86 : decode cX7_tell 86 = .ok (.ifCond .eq 9, 3) := by decide +kernel
theorem dX7_tell_89 : decode cX7_tell 89 = .ok (.sipush 1000, 3) := by decide +kernel
theorem dX7_tell_92 : decode cX7_tell 92 = .ok (.goto 4, 3) := by decide +kernel
theorem dX7_tell_95 : decode cX7_tell 95 = .ok (.iconst 0, 1) := by decide +kernel
theorem dX7_tell_96 : decode cX7_tell 96 = .ok (.iadd, 1) := by decide +kernel
theorem dX7_tell_97 : decode cX7_tell 97 = .ok (.iastore, 1) := by decide +kernel
theorem dX7_tell_98 : decode cX7_tell 98 = .ok (.aload_n 0, 1) := by decide +kernel
theorem dX7_tell_99 : decode cX7_tell 99 = .ok (.dup, 1) := by decide +kernel
theorem dX7_tell_100 : decode cX7_tell 100 = .ok (.getfield 143, 3) := by decide +kernel
theorem dX7_tell_103 : decode cX7_tell 103 = .ok (.iconst 1, 1) := by decide +kernel
theorem dX7_tell_104 : decode cX7_tell 104 = .ok (.iadd, 1) := by decide +kernel
theorem dX7_tell_105 : decode cX7_tell 105 = .ok (.putfield 143, 3) := by decide +kernel
theorem dX7_tell_108 : decode cX7_tell 108 = .ok (.aload_n 0, 1) := by decide +kernel
theorem dX7_tell_109 : decode cX7_tell 109 = .ok (.getfield 69, 3) := by decide +kernel
theorem dX7_tell_112 : decode cX7_tell 112 = .ok (.bipush 20, 2) := by decide +kernel
theorem dX7_tell_114 : decode cX7_tell 114 = .ok (.iload_n 1, 1) := by decide +kernel
theorem dX7_tell_115 : decode cX7_tell 115 = .ok (.imul, 1) := by decide +kernel
theorem dX7_tell_116 : decode cX7_tell 116 = .ok (.iload_n 2, 1) := by decide +kernel
theorem dX7_tell_117 : decode cX7_tell 117 = .ok (.iadd, 1) := by decide +kernel
theorem dX7_tell_118 : decode cX7_tell 118 = .ok (.iload 4, 2) := by decide +kernel
theorem dX7_tell_120 : decode cX7_tell 120 = .ok (.bastore, 1) := by decide +kernel
theorem dX7_tell_121 : decode cX7_tell 121 = .ok (.iinc 2 1, 3) := by decide +kernel
theorem dX7_tell_124 : decode cX7_tell 124 = .ok (.goto (-98), 3) := by decide +kernel
theorem dX7_tell_127 : decode cX7_tell 127 = .ok (.iinc 1 1, 3) := by decide +kernel
theorem dX7_tell_130 : decode cX7_tell 130 = .ok (.goto (-114), 3) := by decide +kernel
theorem dX7_tell_133 : decode cX7_tell 133 = .ok (.aload_n 0, 1) := by decide +kernel
theorem dX7_tell_134 : decode cX7_tell 134 = .ok (.dup, 1) := by decide +kernel
theorem dX7_tell_135 : decode cX7_tell 135 = .ok (.getfield 146, 3) := by decide +kernel
theorem dX7_tell_138 : decode cX7_tell 138 = .ok (.aload_n 0, 1) := by decide +kernel
theorem dX7_tell_139 : decode cX7_tell 139 = .ok (.getfield 143, 3) := by decide +kernel
theorem dX7_tell_142 : decode cX7_tell 142 = .ok (.iadd, 1) := by decide +kernel
theorem dX7_tell_143 : decode cX7_tell 143 = .ok (.putfield 146, 3) := by decide +kernel
theorem dX7_tell_146 : decode cX7_tell 146 = .ok (.aload_n 0, 1) := by decide +kernel
theorem dX7_tell_147 : decode cX7_tell 147 = .ok (.getfield 143, 3) := by decide +kernel
theorem dX7_tell_150 : decode cX7_tell 150 = .ok (.ireturn, 1) := by decide +kernel
theorem dX7_told_0 : decode cX7_told 0 = .ok (.aload_n 0, 1) := by decide +kernel
theorem dX7_told_1 : decode cX7_told 1 = .ok (.iload_n 1, 1) := by decide +kernel
theorem dX7_told_2 : decode cX7_told 2 = .ok (.iconst 0, 1) := by decide +kernel
theorem dX7_told_3 : decode cX7_told 3 = .ok (.aload_n 0, 1) := by decide +kernel
theorem dX7_told_4 : decode cX7_told 4 = .ok (.getfield 143, 3) := by decide +kernel
theorem dX7_told_7 : decode cX7_told 7 = .ok (.iconst 1, 1) := by decide +kernel
theorem dX7_told_8 : decode cX7_told 8 = .ok (.isub, 1) := by decide +kernel
theorem dX7_told_9 : decode cX7_told 9 = .ok (.invokestatic 84, 3) := by decide +kernel
theorem dX7_told_12 : decode cX7_told 12 = .ok (.ifCond .eq 7, 3) := by decide +kernel
theorem dX7_told_15 : decode cX7_told 15 = .ok (.iconst 0, 1) := by decide +kernel
theorem dX7_told_16 : decode cX7_told 16 = .ok (.goto 4, 3) := by decide +kernel
theorem dX7_told_19 : decode cX7_told 19 = .ok (.iconst 1, 1) := by decide +kernel
theorem dX7_told_20 : decode cX7_told 20 = .ok (.putfield 81, 3) := by decide +kernel
theorem dX7_told_23 : decode cX7_told 23 = .ok (.aload_n 0, 1) := by decide +kernel
theorem dX7_told_24 : decode cX7_told 24 = .ok (.getfield 81, 3) := by decide +kernel
theorem dX7_told_27 : decode cX7_told 27 = .ok (.ifCond .le 7, 3) := by decide +kernel
theorem dX7_told_30 : decode cX7_told 30 = .ok (.iconst 0, 1) := by decide +kernel
theorem dX7_told_31 : decode cX7_told 31 = .ok (.goto 9, 3) := by decide +kernel
theorem dX7_told_34 : decode cX7_told 34 = .ok (.aload_n 0, 1) := by decide +kernel
theorem dX7_told_35 : decode cX7_told 35 = .ok (.getfield 75, 3) := by decide +kernel
theorem dX7_told_38 : decode cX7_told 38 = .ok (.iload_n 1, 1) := by decide +kernel
theorem dX7_told_39 : decode cX7_told 39 = .ok (.iaload, 1) := by decide +kernel
theorem dX7_told_40 : decode cX7_told 40 = .ok (.ireturn, 1) := by decide +kernel
theorem dX7_toldInAll_0 : decode cX7_toldInAll 0 = .ok (.aload_n 0, 1) := by decide +kernel
theorem dX7_toldInAll_1 : decode cX7_toldInAll 1 = .ok (.iconst 0, 1) := by decide +kernel
theorem dX7_toldInAll_2 : decode cX7_toldInAll 2 = .ok (.putfield 81, 3) := by decide +kernel
theorem dX7_toldInAll_5 : decode cX7_toldInAll 5 = .ok (.aload_n 0, 1) := by decide +kernel
theorem dX7_toldInAll_6 : decode cX7_toldInAll 6 = .ok (.getfield 146, 3) := by decide +kernel
theorem dX7_toldInAll_9 : decode cX7_toldInAll 9 = .ok (.ireturn, 1) := by decide +kernel
theorem dX7_forget_0 : decode cX7_forget 0 = .ok (.aload_n 0, 1) := by decide +kernel
theorem dX7_forget_1 : decode cX7_forget 1 = .ok (.aload_n 0, 1) := by decide +kernel
theorem dX7_forget_2 : decode cX7_forget 2 = .ok (.iload_n 1, 1) := by decide +kernel
theorem dX7_forget_3 : decode cX7_forget 3 = .ok (.invokevirtual 100, 3) := by decide +kernel
theorem dX7_forget_6 : decode cX7_forget 6 = .ok (.ifCond .eq 7, 3) := by decide +kernel
theorem dX7_forget_9 : decode cX7_forget 9 = .ok (.iconst 0, 1) := by decide +kernel
theorem dX7_forget_10 : decode cX7_forget 10 = .ok (.goto 4, 3) := by decide +kernel
theorem dX7_forget_13 : decode cX7_forget 13 = .ok (.iconst 1, 1) := by decide +kernel
theorem dX7_forget_14 : decode cX7_forget 14 = .ok (.putfield 81, 3) := by decide +kernel
theorem dX7_forget_17 : decode cX7_forget 17 = .ok (.aload_n 0, 1) := by decide +kernel
theorem dX7_forget_18 : decode cX7_forget 18 = .ok (.getfield 81, 3) := by decide +kernel
theorem dX7_forget_21 : decode cX7_forget 21 = .ok (.ifCond .le 5, 3) := by decide +kernel
theorem dX7_forget_24 : decode cX7_forget 24 = .ok (.iconst 0, 1) := by decide +kernel
theorem dX7_forget_25 : decode cX7_forget 25 = .ok (.ireturn, 1) := by decide +kernel
theorem dX7_forget_26 : decode cX7_forget 26 = .ok (.aload_n 0, 1) := by decide +kernel
theorem dX7_forget_27 : decode cX7_forget 27 = .ok (.invokevirtual 103, 3) := by decide +kernel
theorem dX7_forget_30 : decode cX7_forget 30 = .ok (.iconst 0, 1) := by decide +kernel
theorem dX7_forget_31 : decode cX7_forget 31 = .ok (.istore_n 2, 1) := by decide +kernel
theorem dX7_forget_32 : decode cX7_forget 32 = .ok (.iconst 0, 1) := by decide +kernel
theorem dX7_forget_33 : decode cX7_forget 33 = .ok (.istore_n 3, 1) := by decide +kernel
theorem dX7_forget_34 : decode cX7_forget 34 = .ok (.iload_n 3, 1) := by decide +kernel
theorem dX7_forget_35 : decode cX7_forget 35 = .ok (.aload_n 0, 1) := by decide +kernel
theorem dX7_forget_36 : decode cX7_forget 36 = .ok (.getfield 89, 3) := by decide +kernel
theorem dX7_forget_39 : decode cX7_forget 39 = .ok (.if_icmp .ge 55, 3) := by decide +kernel
theorem dX7_forget_42 : decode cX7_forget 42 = .ok (.aload_n 0, 1) := by decide +kernel
theorem dX7_forget_43 : decode cX7_forget 43 = .ok (.iload_n 3, 1) := by decide +kernel
theorem dX7_forget_44 : decode cX7_forget 44 = .ok (.iload_n 1, 1) := by decide +kernel
theorem dX7_forget_45 : decode cX7_forget 45 = .ok (.invokevirtual 112, 3) := by decide +kernel
theorem dX7_forget_48 : decode cX7_forget 48 = .ok (.istore 4, 2) := by decide +kernel
theorem dX7_forget_50 : decode cX7_forget 50 = .ok (.iload_n 2, 1) := by decide +kernel
theorem dX7_forget_51 : decode cX7_forget 51 = .ok (.iload 4, 2) := by decide +kernel
theorem dX7_forget_53 : decode cX7_forget 53 = .ok (.ifCond .eq 7, 3) := by decide +kernel
theorem dX7_forget_56 : decode cX7_forget 56 = .ok (.iconst 1, 1) := by decide +kernel
theorem dX7_forget_57 : decode cX7_forget 57 = .ok (.goto 4, 3) := by decide +kernel
theorem dX7_forget_60 : decode cX7_forget 60 = .ok (.iconst 0, 1) := by decide +kernel
theorem dX7_forget_61 : decode cX7_forget 61 = .ok (.iadd, 1) := by decide +kernel
theorem dX7_forget_62 : decode cX7_forget 62 = .ok (.istore_n 2, 1) := by decide +kernel
theorem dX7_forget_63 : decode cX7_forget 63 = .ok (.aload_n 0, 1) := by decide +kernel
theorem dX7_forget_64 : decode cX7_forget 64 = .ok (.getfield 32, 3) := by decide +kernel
theorem dX7_forget_67 : decode cX7_forget 67 = .ok (.iload_n 3, 1) := by decide +kernel
theorem dX7_forget_68 : decode cX7_forget 68 = .ok (.aload_n 0, 1) := by decide +kernel
theorem dX7_forget_69 : decode cX7_forget 69 = .ok (.getfield 32, 3) := by decide +kernel
theorem dX7_forget_72 : decode cX7_forget 72 = .ok (.iload_n 3, 1) := by decide +kernel
theorem dX7_forget_73 : decode cX7_forget 73 = .ok (.baload, 1) := by decide +kernel
theorem dX7_forget_74 : decode cX7_forget 74 = .ok (.ifCond .ne 8, 3) := by decide +kernel
theorem dX7_forget_77 : decode cX7_forget 77 = .ok (.iload 4, 2) := by decide +kernel
theorem dX7_forget_79 : decode cX7_forget 79 = .ok (.ifCond .eq 7, 3) := by decide +kernel
theorem dX7_forget_82 : decode cX7_forget 82 = .ok (.iconst 1, 1) := by decide +kernel
theorem dX7_forget_83 : decode cX7_forget 83 = .ok (.goto 4, 3) := by decide +kernel
theorem dX7_forget_86 : decode cX7_forget 86 = .ok (.iconst 0, 1) := by decide +kernel
theorem dX7_forget_87 : decode cX7_forget 87 = .ok (.bastore, 1) := by decide +kernel
theorem dX7_forget_88 : decode cX7_forget 88 = .ok (.iinc 3 1, 3) := by decide +kernel
theorem dX7_forget_91 : decode cX7_forget 91 = .ok (.goto (-57), 3) := by decide +kernel
theorem dX7_forget_94 : decode cX7_forget 94 = .ok (.iconst 0, 1) := by decide +kernel
theorem dX7_forget_95 : decode cX7_forget 95 = .ok (.istore_n 3, 1) := by decide +kernel
theorem dX7_forget_96 : decode cX7_forget 96 = .ok (.iload_n 3, 1) := by decide +kernel
theorem dX7_forget_97 : decode cX7_forget 97 = .ok (.bipush 20, 2) := by decide +kernel
theorem dX7_forget_99 : decode cX7_forget 99 = .ok (.if_icmp .ge 65, 3) := by decide +kernel
theorem dX7_forget_102 : decode cX7_forget 102 = .ok (.iconst 0, 1) := by decide +kernel
theorem dX7_forget_103 : decode cX7_forget 103 = .ok (.istore 4, 2) := by decide +kernel
theorem dX7_forget_105 : decode cX7_forget 105 = .ok (.iload 4, 2) := by decide +kernel
theorem dX7_forget_107 : decode cX7_forget 107 = .ok (.iconst 4, 1) := by decide +kernel
theorem dX7_forget_108 : decode cX7_forget 108 = .ok (.if_icmp .ge 50, 3) := by decide +kernel
theorem dX7_forget_111 : decode cX7_forget 111 = .ok (.aload_n 0, 1) := by decide +kernel
theorem dX7_forget_112 : decode cX7_forget 112 = .ok (.getfield 48, 3) := by decide +kernel
theorem dX7_forget_115 : decode cX7_forget 115 = .ok (.iconst 4, 1) := by decide +kernel
theorem dX7_forget_116 : decode cX7_forget 116 = .ok (.iload_n 3, 1) := by decide +kernel
theorem dX7_forget_117 : decode cX7_forget 117 = .ok (.imul, 1) := by decide +kernel
theorem dX7_forget_118 : decode cX7_forget 118 = .ok (.iload 4, 2) := by decide +kernel
theorem dX7_forget_120 : decode cX7_forget 120 = .ok (.iadd, 1) := by decide +kernel
theorem dX7_forget_121 : decode cX7_forget 121 = .ok (.aload_n 0, 1) := by decide +kernel
theorem dX7_forget_122 : decode cX7_forget 122 = .ok (.getfield 78, 3) := by decide +kernel
theorem dX7_forget_125 : decode cX7_forget 125 = .ok (.iload_n 3, 1) := by decide +kernel
theorem dX7_forget_126 : decode cX7_forget 126 = .ok (.iaload, 1) := by decide +kernel
theorem dX7_forget_127 : decode cX7_forget 127 = .ok (.aload_n 0, 1) := by decide +kernel
theorem dX7_forget_128 : decode cX7_forget 128 = .ok (.getfield 78, 3) := by decide +kernel
theorem dX7_forget_131 : decode cX7_forget 131 = .ok (.iload_n 1, 1) := by decide +kernel
theorem dX7_forget_132 : decode cX7_forget 132 = .ok (.iaload, 1) := by decide +kernel
theorem dX7_forget_133 : decode cX7_forget 133 = .ok (.if_icmp .ne 7, 3) := by decide +kernel
theorem dX7_forget_136 : decode cX7_forget 136 = .ok (.iconst 0, 1) := by decide +kernel
theorem dX7_forget_137 : decode cX7_forget 137 = .ok (.goto 14, 3) := by decide +kernel
theorem dX7_forget_140 : decode cX7_forget 140 = .ok (.aload_n 0, 1) := by decide +kernel
theorem dX7_forget_141 : decode cX7_forget 141 = .ok (.getfield 48, 3) := by decide +kernel
theorem dX7_forget_144 : decode cX7_forget 144 = .ok (.iconst 4, 1) := by decide +kernel
theorem dX7_forget_145 : decode cX7_forget 145 = .ok (.iload_n 3, 1) := by decide +kernel
theorem dX7_forget_146 : decode cX7_forget 146 = .ok (.imul, 1) := by decide +kernel
theorem dX7_forget_147 : decode cX7_forget 147 = .ok (.iload 4, 2) := by decide +kernel
theorem dX7_forget_149 : decode cX7_forget 149 = .ok (.iadd, 1) := by decide +kernel
theorem dX7_forget_150 : decode cX7_forget 150 = .ok (.iaload, 1) := by decide +kernel
theorem dX7_forget_151 : decode cX7_forget 151 = .ok (.iastore, 1) := by decide +kernel
theorem dX7_forget_152 : decode cX7_forget 152 = .ok (.iinc 4 1, 3) := by decide +kernel
theorem dX7_forget_155 : decode cX7_forget 155 = .ok (.goto (-50), 3) := by decide +kernel
theorem dX7_forget_158 : decode cX7_forget 158 = .ok (.iinc 3 1, 3) := by decide +kernel
theorem dX7_forget_161 : decode cX7_forget 161 = .ok (.goto (-65), 3) := by decide +kernel
theorem dX7_forget_164 : decode cX7_forget 164 = .ok (.iload_n 2, 1) := by decide +kernel
theorem dX7_forget_165 : decode cX7_forget 165 = .ok (.ireturn, 1) := by decide +kernel
theorem dX7_pass_0 : decode cX7_pass 0 = .ok (.aload_n 0, 1) := by decide +kernel
theorem dX7_pass_1 : decode cX7_pass 1 = .ok (.iload_n 1, 1) := by decide +kernel
theorem dX7_pass_2 : decode cX7_pass 2 = .ok (.iconst 1, 1) := by decide +kernel
theorem dX7_pass_3 : decode cX7_pass 3 = .ok (.sipush 20000, 3) := by decide +kernel
theorem dX7_pass_6 : decode cX7_pass 6 = .ok (.invokestatic 84, 3) := by decide +kernel
theorem dX7_pass_9 : decode cX7_pass 9 = .ok (.ifCond .ne 7, 3) := by decide +kernel
theorem dX7_pass_12 : decode cX7_pass 12 = .ok (.iconst 1, 1) := by decide +kernel
theorem dX7_pass_13 : decode cX7_pass 13 = .ok (.goto 19, 3) := by decide +kernel
theorem dX7_pass_16 : decode cX7_pass 16 = .ok (.aload_n 0, 1) := by decide +kernel
theorem dX7_pass_17 : decode cX7_pass 17 = .ok (.getfield 7, 3) := by decide +kernel
theorem dX7_pass_20 : decode cX7_pass 20 = .ok (.iload_n 1, 1) := by decide +kernel
theorem dX7_pass_21 : decode cX7_pass 21 = .ok (.iadd, 1) := by decide +kernel
theorem dX7_pass_22 : decode cX7_pass 22 = .ok (.ldc 88, 2) := by decide +kernel
theorem dX7_pass_24 : decode cX7_pass 24 = .ok (.if_icmp .le 7, 3) := by decide +kernel
theorem dX7_pass_27 : decode cX7_pass 27 = .ok (.iconst 2, 1) := by decide +kernel
theorem dX7_pass_28 : decode cX7_pass 28 = .ok (.goto 4, 3) := by decide +kernel
theorem dX7_pass_31 : decode cX7_pass 31 = .ok (.iconst 0, 1) := by decide +kernel
theorem dX7_pass_32 : decode cX7_pass 32 = .ok (.putfield 81, 3) := by decide +kernel
theorem dX7_pass_35 : decode cX7_pass 35 = .ok (.aload_n 0, 1) := by decide +kernel
theorem dX7_pass_36 : decode cX7_pass 36 = .ok (.dup, 1) := by decide +kernel
theorem dX7_pass_37 : decode cX7_pass 37 = .ok (.getfield 7, 3) := by decide +kernel
theorem dX7_pass_40 : decode cX7_pass 40 = .ok (.aload_n 0, 1) := by decide +kernel
theorem dX7_pass_41 : decode cX7_pass 41 = .ok (.getfield 81, 3) := by decide +kernel
theorem dX7_pass_44 : decode cX7_pass 44 = .ok (.ifCond .le 7, 3) := by decide +kernel
theorem dX7_pass_47 : decode cX7_pass 47 = .ok (.iconst 0, 1) := by decide +kernel
theorem dX7_pass_48 : decode cX7_pass 48 = .ok (.goto 4, 3) := by decide +kernel
theorem dX7_pass_51 : decode cX7_pass 51 = .ok (.iload_n 1, 1) := by decide +kernel
theorem dX7_pass_52 : decode cX7_pass 52 = .ok (.iadd, 1) := by decide +kernel
theorem dX7_pass_53 : decode cX7_pass 53 = .ok (.putfield 7, 3) := by decide +kernel
theorem dX7_pass_56 : decode cX7_pass 56 = .ok (.aload_n 0, 1) := by decide +kernel
theorem dX7_pass_57 : decode cX7_pass 57 = .ok (.getfield 81, 3) := by decide +kernel
theorem dX7_pass_60 : decode cX7_pass 60 = .ok (.ifCond .le 7, 3) := by decide +kernel
theorem dX7_pass_63 : decode cX7_pass 63 = .ok (.iconst 0, 1) := by decide +kernel
theorem dX7_pass_64 : decode cX7_pass 64 = .ok (.goto 7, 3) := by decide +kernel
theorem dX7_pass_67 : decode cX7_pass 67 = .ok (.aload_n 0, 1) := by decide +kernel
theorem dX7_pass_68 : decode cX7_pass 68 = .ok (.getfield 7, 3) := by decide +kernel
theorem dX7_pass_71 : decode cX7_pass 71 = .ok (.ireturn, 1) := by decide +kernel
