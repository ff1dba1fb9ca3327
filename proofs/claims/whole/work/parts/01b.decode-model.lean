theorem dX7_init_0 : decode cX7_init 0 = .ok (.aload_n 0, 1) := by decide +kernel
theorem dX7_init_1 : decode cX7_init 1 = .ok (.invokespecial 1, 3) := by decide +kernel
theorem dX7_init_4 : decode cX7_init 4 = .ok (.aload_n 0, 1) := by decide +kernel
theorem dX7_init_5 : decode cX7_init 5 = .ok (.sipush 400, 3) := by decide +kernel
theorem dX7_init_8 : decode cX7_init 8 = .ok (.newarray .int, 2) := by decide +kernel
theorem dX7_init_10 : decode cX7_init 10 = .ok (.putfield 7, 3) := by decide +kernel
theorem dX7_init_13 : decode cX7_init 13 = .ok (.aload_n 0, 1) := by decide +kernel
theorem dX7_init_14 : decode cX7_init 14 = .ok (.sipush 8000, 3) := by decide +kernel
theorem dX7_init_17 : decode cX7_init 17 = .ok (.newarray .int, 2) := by decide +kernel
theorem dX7_init_19 : decode cX7_init 19 = .ok (.putfield 13, 3) := by decide +kernel
theorem dX7_init_22 : decode cX7_init 22 = .ok (.aload_n 0, 1) := by decide +kernel
theorem dX7_init_23 : decode cX7_init 23 = .ok (.bipush 20, 2) := by decide +kernel
theorem dX7_init_25 : decode cX7_init 25 = .ok (.newarray .int, 2) := by decide +kernel
theorem dX7_init_27 : decode cX7_init 27 = .ok (.putfield 16, 3) := by decide +kernel
theorem dX7_init_30 : decode cX7_init 30 = .ok (.aload_n 0, 1) := by decide +kernel
theorem dX7_init_31 : decode cX7_init 31 = .ok (.bipush 20, 2) := by decide +kernel
theorem dX7_init_33 : decode cX7_init 33 = .ok (.newarray .int, 2) := by decide +kernel
theorem dX7_init_35 : decode cX7_init 35 = .ok (.putfield 19, 3) := by decide +kernel
theorem dX7_init_38 : decode cX7_init 38 = .ok (.aload_n 0, 1) := by decide +kernel
theorem dX7_init_39 : decode cX7_init 39 = .ok (.bipush 20, 2) := by decide +kernel
theorem dX7_init_41 : decode cX7_init 41 = .ok (.newarray .int, 2) := by decide +kernel
theorem dX7_init_43 : decode cX7_init 43 = .ok (.putfield 22, 3) := by decide +kernel
theorem dX7_init_46 : decode cX7_init 46 = .ok (.aload_n 0, 1) := by decide +kernel
theorem dX7_init_47 : decode cX7_init 47 = .ok (.bipush 20, 2) := by decide +kernel
theorem dX7_init_49 : decode cX7_init 49 = .ok (.newarray .int, 2) := by decide +kernel
theorem dX7_init_51 : decode cX7_init 51 = .ok (.putfield 25, 3) := by decide +kernel
theorem dX7_init_54 : decode cX7_init 54 = .ok (.aload_n 0, 1) := by decide +kernel
theorem dX7_init_55 : decode cX7_init 55 = .ok (.bipush 20, 2) := by decide +kernel
theorem dX7_init_57 : decode cX7_init 57 = .ok (.newarray .int, 2) := by decide +kernel
theorem dX7_init_59 : decode cX7_init 59 = .ok (.putfield 28, 3) := by decide +kernel
theorem dX7_init_62 : decode cX7_init 62 = .ok (.aload_n 0, 1) := by decide +kernel
theorem dX7_init_63 : decode cX7_init 63 = .ok (.sipush 200, 3) := by decide +kernel
theorem dX7_init_66 : decode cX7_init 66 = .ok (.newarray .int, 2) := by decide +kernel
theorem dX7_init_68 : decode cX7_init 68 = .ok (.putfield 31, 3) := by decide +kernel
theorem dX7_init_71 : decode cX7_init 71 = .ok (.aload_n 0, 1) := by decide +kernel
theorem dX7_init_72 : decode cX7_init 72 = .ok (.sipush 200, 3) := by decide +kernel
theorem dX7_init_75 : decode cX7_init 75 = .ok (.newarray .int, 2) := by decide +kernel
theorem dX7_init_77 : decode cX7_init 77 = .ok (.putfield 34, 3) := by decide +kernel
theorem dX7_init_80 : decode cX7_init 80 = .ok (.aload_n 0, 1) := by decide +kernel
theorem dX7_init_81 : decode cX7_init 81 = .ok (.sipush 200, 3) := by decide +kernel
theorem dX7_init_84 : decode cX7_init 84 = .ok (.newarray .boolean, 2) := by decide +kernel
theorem dX7_init_86 : decode cX7_init 86 = .ok (.putfield 37, 3) := by decide +kernel
theorem dX7_init_89 : decode cX7_init 89 = .ok (.aload_n 0, 1) := by decide +kernel
theorem dX7_init_90 : decode cX7_init 90 = .ok (.sipush 200, 3) := by decide +kernel
theorem dX7_init_93 : decode cX7_init 93 = .ok (.newarray .boolean, 2) := by decide +kernel
theorem dX7_init_95 : decode cX7_init 95 = .ok (.putfield 41, 3) := by decide +kernel
theorem dX7_init_98 : decode cX7_init 98 = .ok (.aload_n 0, 1) := by decide +kernel
theorem dX7_init_99 : decode cX7_init 99 = .ok (.iconst 3, 1) := by decide +kernel
theorem dX7_init_100 : decode cX7_init 100 = .ok (.newarray .int, 2) := by decide +kernel
theorem dX7_init_102 : decode cX7_init 102 = .ok (.putfield 44, 3) := by decide +kernel
theorem dX7_init_105 : decode cX7_init 105 = .ok (.aload_n 0, 1) := by decide +kernel
theorem dX7_init_106 : decode cX7_init 106 = .ok (.sipush 600, 3) := by decide +kernel
theorem dX7_init_109 : decode cX7_init 109 = .ok (.newarray .int, 2) := by decide +kernel
theorem dX7_init_111 : decode cX7_init 111 = .ok (.putfield 47, 3) := by decide +kernel
theorem dX7_init_114 : decode cX7_init 114 = .ok (.aload_n 0, 1) := by decide +kernel
theorem dX7_init_115 : decode cX7_init 115 = .ok (.iconst 3, 1) := by decide +kernel
theorem dX7_init_116 : decode cX7_init 116 = .ok (.newarray .int, 2) := by decide +kernel
theorem dX7_init_118 : decode cX7_init 118 = .ok (.putfield 50, 3) := by decide +kernel
theorem dX7_init_121 : decode cX7_init 121 = .ok (.aload_n 0, 1) := by decide +kernel
theorem dX7_init_122 : decode cX7_init 122 = .ok (.sipush 600, 3) := by decide +kernel
theorem dX7_init_125 : decode cX7_init 125 = .ok (.newarray .int, 2) := by decide +kernel
theorem dX7_init_127 : decode cX7_init 127 = .ok (.putfield 53, 3) := by decide +kernel
theorem dX7_init_130 : decode cX7_init 130 = .ok (.aload_n 0, 1) := by decide +kernel
theorem dX7_init_131 : decode cX7_init 131 = .ok (.iconst 3, 1) := by decide +kernel
theorem dX7_init_132 : decode cX7_init 132 = .ok (.newarray .boolean, 2) := by decide +kernel
theorem dX7_init_134 : decode cX7_init 134 = .ok (.putfield 56, 3) := by decide +kernel
theorem dX7_init_137 : decode cX7_init 137 = .ok (.aload_n 0, 1) := by decide +kernel
theorem dX7_init_138 : decode cX7_init 138 = .ok (.iconst 3, 1) := by decide +kernel
theorem dX7_init_139 : decode cX7_init 139 = .ok (.newarray .int, 2) := by decide +kernel
theorem dX7_init_141 : decode cX7_init 141 = .ok (.putfield 59, 3) := by decide +kernel
theorem dX7_init_144 : decode cX7_init 144 = .ok (.aload_n 0, 1) := by decide +kernel
theorem dX7_init_145 : decode cX7_init 145 = .ok (.iconst 3, 1) := by decide +kernel
theorem dX7_init_146 : decode cX7_init 146 = .ok (.newarray .int, 2) := by decide +kernel
theorem dX7_init_148 : decode cX7_init 148 = .ok (.putfield 62, 3) := by decide +kernel
theorem dX7_init_151 : decode cX7_init 151 = .ok (.aload_n 0, 1) := by decide +kernel
theorem dX7_init_152 : decode cX7_init 152 = .ok (.iconst 5, 1) := by decide +kernel
theorem dX7_init_153 : decode cX7_init 153 = .ok (.newarray .int, 2) := by decide +kernel
theorem dX7_init_155 : decode cX7_init 155 = .ok (.putfield 65, 3) := by decide +kernel
theorem dX7_init_158 : decode cX7_init 158 = .ok (.aload_n 0, 1) := by decide +kernel
theorem dX7_init_159 : decode cX7_init 159 = .ok (.bipush 9, 2) := by decide +kernel
theorem dX7_init_161 : decode cX7_init 161 = .ok (.newarray .int, 2) := by decide +kernel
theorem dX7_init_163 : decode cX7_init 163 = .ok (.putfield 68, 3) := by decide +kernel
theorem dX7_init_166 : decode cX7_init 166 = .ok (.aload_n 0, 1) := by decide +kernel
theorem dX7_init_167 : decode cX7_init 167 = .ok (.bipush 9, 2) := by decide +kernel
theorem dX7_init_169 : decode cX7_init 169 = .ok (.newarray .int, 2) := by decide +kernel
theorem dX7_init_171 : decode cX7_init 171 = .ok (.putfield 71, 3) := by decide +kernel
theorem dX7_init_174 : decode cX7_init 174 = .ok (.iconst 0, 1) := by decide +kernel
theorem dX7_init_175 : decode cX7_init 175 = .ok (.istore_n 1, 1) := by decide +kernel
theorem dX7_init_176 : decode cX7_init 176 = .ok (.iload_n 1, 1) := by decide +kernel
theorem dX7_init_177 : decode cX7_init 177 = .ok (.iconst 3, 1) := by decide +kernel
theorem dX7_init_178 : decode cX7_init 178 = .ok (.if_icmp .ge 23, 3) := by decide +kernel
theorem dX7_init_181 : decode cX7_init 181 = .ok (.aload_n 0, 1) := by decide +kernel
theorem dX7_init_182 : decode cX7_init 182 = .ok (.getfield 59, 3) := by decide +kernel
theorem dX7_init_185 : decode cX7_init 185 = .ok (.iload_n 1, 1) := by decide +kernel
theorem dX7_init_186 : decode cX7_init 186 = .ok (.iconst 5, 1) := by decide +kernel
theorem dX7_init_187 : decode cX7_init 187 = .ok (.iastore, 1) := by decide +kernel
theorem dX7_init_188 : decode cX7_init 188 = .ok (.aload_n 0, 1) := by decide +kernel
theorem dX7_init_189 : decode cX7_init 189 = .ok (.getfield 62, 3) := by decide +kernel
theorem dX7_init_192 : decode cX7_init 192 = .ok (.iload_n 1, 1) := by decide +kernel
theorem dX7_init_193 : decode cX7_init 193 = .ok (.iconst 2, 1) := by decide +kernel
theorem dX7_init_194 : decode cX7_init 194 = .ok (.iastore, 1) := by decide +kernel
theorem dX7_init_195 : decode cX7_init 195 = .ok (.iinc 1 1, 3) := by decide +kernel
theorem dX7_init_198 : decode cX7_init 198 = .ok (.goto (-22), 3) := by decide +kernel
theorem dX7_init_201 : decode cX7_init 201 = .ok (.iconst 0, 1) := by decide +kernel
theorem dX7_init_202 : decode cX7_init 202 = .ok (.istore_n 1, 1) := by decide +kernel
theorem dX7_init_203 : decode cX7_init 203 = .ok (.iload_n 1, 1) := by decide +kernel
theorem dX7_init_204 : decode cX7_init 204 = .ok (.iconst 5, 1) := by decide +kernel
theorem dX7_init_205 : decode cX7_init 205 = .ok (.if_icmp .ge 16, 3) := by decide +kernel
theorem dX7_init_208 : decode cX7_init 208 = .ok (.aload_n 0, 1) := by decide +kernel
theorem dX7_init_209 : decode cX7_init 209 = .ok (.getfield 65, 3) := by decide +kernel
theorem dX7_init_212 : decode cX7_init 212 = .ok (.iload_n 1, 1) := by decide +kernel
theorem dX7_init_213 : decode cX7_init 213 = .ok (.iconst (-1), 1) := by decide +kernel
theorem dX7_init_214 : decode cX7_init 214 = .ok (.iastore, 1) := by decide +kernel
theorem dX7_init_215 : decode cX7_init 215 = .ok (.iinc 1 1, 3) := by decide +kernel
theorem dX7_init_218 : decode cX7_init 218 = .ok (.goto (-15), 3) := by decide +kernel
theorem dX7_init_221 : decode cX7_init 221 = .ok (.return_, 1) := by decide +kernel
theorem dX7_thrown_0 : decode cX7_thrown 0 = .ok (.aload_n 0, 1) := by decide +kernel
theorem dX7_thrown_1 : decode cX7_thrown 1 = .ok (.getfield 74, 3) := by decide +kernel
theorem dX7_thrown_4 : decode cX7_thrown 4 = .ok (.ireturn, 1) := by decide +kernel
theorem dX7_fails_0 : decode cX7_fails 0 = .ok (.aload_n 0, 1) := by decide +kernel
theorem dX7_fails_1 : decode cX7_fails 1 = .ok (.iload_n 1, 1) := by decide +kernel
theorem dX7_fails_2 : decode cX7_fails 2 = .ok (.putfield 74, 3) := by decide +kernel
theorem dX7_fails_5 : decode cX7_fails 5 = .ok (.iload_n 1, 1) := by decide +kernel
theorem dX7_fails_6 : decode cX7_fails 6 = .ok (.ifCond .le 7, 3) := by decide +kernel
theorem dX7_fails_9 : decode cX7_fails 9 = .ok (.iconst 1, 1) := by decide +kernel
theorem dX7_fails_10 : decode cX7_fails 10 = .ok (.goto 4, 3) := by decide +kernel
theorem dX7_fails_13 : decode cX7_fails 13 = .ok (.iconst 0, 1) := by decide +kernel
theorem dX7_fails_14 : decode cX7_fails 14 = .ok (.ireturn, 1) := by decide +kernel
theorem dX7_tells_0 : decode cX7_tells 0 = .ok (.aload_n 0, 1) := by decide +kernel
theorem dX7_tells_1 : decode cX7_tells 1 = .ok (.iconst 0, 1) := by decide +kernel
theorem dX7_tells_2 : decode cX7_tells 2 = .ok (.putfield 74, 3) := by decide +kernel
theorem dX7_tells_5 : decode cX7_tells 5 = .ok (.iload_n 1, 1) := by decide +kernel
theorem dX7_tells_6 : decode cX7_tells 6 = .ok (.ireturn, 1) := by decide +kernel
theorem dX7_isIn_0 : decode cX7_isIn 0 = .ok (.iload_n 0, 1) := by decide +kernel
theorem dX7_isIn_1 : decode cX7_isIn 1 = .ok (.iload_n 1, 1) := by decide +kernel
theorem dX7_isIn_2 : decode cX7_isIn 2 = .ok (.if_icmp .lt 12, 3) := by decide +kernel
theorem dX7_isIn_5 : decode cX7_isIn 5 = .ok (.iload_n 0, 1) := by decide +kernel
theorem dX7_isIn_6 : decode cX7_isIn 6 = .ok (.iload_n 2, 1) := by decide +kernel
theorem dX7_isIn_7 : decode cX7_isIn 7 = .ok (.if_icmp .gt 7, 3) := by decide +kernel
theorem dX7_isIn_10 : decode cX7_isIn 10 = .ok (.iconst 1, 1) := by decide +kernel
theorem dX7_isIn_11 : decode cX7_isIn 11 = .ok (.goto 4, 3) := by decide +kernel
theorem dX7_isIn_14 : decode cX7_isIn 14 = .ok (.iconst 0, 1) := by decide +kernel
theorem dX7_isIn_15 : decode cX7_isIn 15 = .ok (.ireturn, 1) := by decide +kernel
theorem dX7_hasWide_0 : decode cX7_hasWide 0 = .ok (.iconst 0, 1) := by decide +kernel
theorem dX7_hasWide_1 : decode cX7_hasWide 1 = .ok (.istore_n 3, 1) := by decide +kernel
theorem dX7_hasWide_2 : decode cX7_hasWide 2 = .ok (.iload_n 1, 1) := by decide +kernel
theorem dX7_hasWide_3 : decode cX7_hasWide 3 = .ok (.istore 4, 2) := by decide +kernel
theorem dX7_hasWide_5 : decode cX7_hasWide 5 = .ok (.iload 4, 2) := by decide +kernel
theorem dX7_hasWide_7 : decode cX7_hasWide 7 = .ok (.iload_n 1, 1) := by decide +kernel
theorem dX7_hasWide_8 : decode cX7_hasWide 8 = .ok (.iload_n 2, 1) := by decide +kernel
theorem dX7_hasWide_9 : decode cX7_hasWide 9 = .ok (.iadd, 1) := by decide +kernel
theorem dX7_hasWide_10 : decode cX7_hasWide 10 = .ok (.if_icmp .ge 29, 3) := by decide +kernel
theorem dX7_hasWide_13 : decode cX7_hasWide 13 = .ok (.iload_n 3, 1) := by decide +kernel
theorem dX7_hasWide_14 : decode cX7_hasWide 14 = .ok (.ifCond .ne 13, 3) := by decide +kernel
theorem dX7_hasWide_17 : decode cX7_hasWide 17 = .ok (.aload_n 0, 1) := by decide +kernel
theorem dX7_hasWide_18 : decode cX7_hasWide 18 = .ok (.iload 4, 2) := by decide +kernel
theorem dX7_hasWide_20 : decode cX7_hasWide 20 = .ok (.iaload, 1) := by decide +kernel
theorem dX7_hasWide_21 : decode cX7_hasWide 21 = .ok (.sipush 159, 3) := by decide +kernel
theorem dX7_hasWide_24 : decode cX7_hasWide 24 = .ok (.if_icmp .le 7, 3) := by decide +kernel
theorem dX7_hasWide_27 : decode cX7_hasWide 27 = .ok (.iconst 1, 1) := by decide +kernel
theorem dX7_hasWide_28 : decode cX7_hasWide 28 = .ok (.goto 4, 3) := by decide +kernel
theorem dX7_hasWide_31 : decode cX7_hasWide 31 = .ok (.iconst 0, 1) := by decide +kernel
theorem dX7_hasWide_32 : decode cX7_hasWide 32 = .ok (.istore_n 3, 1) := by decide +kernel
theorem dX7_hasWide_33 : decode cX7_hasWide 33 = .ok (.iinc 4 1, 3) := by decide +kernel
theorem dX7_hasWide_36 : decode cX7_hasWide 36 = .ok (.goto (-31), 3) := by decide +kernel
theorem dX7_hasWide_39 : decode cX7_hasWide 39 = .ok (.iload_n 3, 1) := by decide +kernel
theorem dX7_hasWide_40 : decode cX7_hasWide 40 = .ok (.ireturn, 1) := by decide +kernel
theorem dX7_width_0 : decode cX7_width 0 = .ok (.iload_n 0, 1) := by decide +kernel
theorem dX7_width_1 : decode cX7_width 1 = .ok (.sipush 128, 3) := by decide +kernel
theorem dX7_width_4 : decode cX7_width 4 = .ok (.if_icmp .ge 7, 3) := by decide +kernel
theorem dX7_width_7 : decode cX7_width 7 = .ok (.iconst 1, 1) := by decide +kernel
theorem dX7_width_8 : decode cX7_width 8 = .ok (.goto 4, 3) := by decide +kernel
theorem dX7_width_11 : decode cX7_width 11 = .ok (.iconst 2, 1) := by decide +kernel
theorem dX7_width_12 : decode cX7_width 12 = .ok (.ireturn, 1) := by decide +kernel
theorem dX7_septetsIn_0 : decode cX7_septetsIn 0 = .ok (.iconst 0, 1) := by decide +kernel
theorem dX7_septetsIn_1 : decode cX7_septetsIn 1 = .ok (.istore_n 3, 1) := by decide +kernel
theorem dX7_septetsIn_2 : decode cX7_septetsIn 2 = .ok (.iload_n 1, 1) := by decide +kernel
theorem dX7_septetsIn_3 : decode cX7_septetsIn 3 = .ok (.istore 4, 2) := by decide +kernel
theorem dX7_septetsIn_5 : decode cX7_septetsIn 5 = .ok (.iload 4, 2) := by decide +kernel
theorem dX7_septetsIn_7 : decode cX7_septetsIn 7 = .ok (.iload_n 1, 1) := by decide +kernel
theorem dX7_septetsIn_8 : decode cX7_septetsIn 8 = .ok (.iload_n 2, 1) := by decide +kernel
theorem dX7_septetsIn_9 : decode cX7_septetsIn 9 = .ok (.iadd, 1) := by decide +kernel
theorem dX7_septetsIn_10 : decode cX7_septetsIn 10 = .ok (.if_icmp .ge 19, 3) := by decide +kernel
theorem dX7_septetsIn_13 : decode cX7_septetsIn 13 = .ok (.iload_n 3, 1) := by decide +kernel
theorem dX7_septetsIn_14 : decode cX7_septetsIn 14 = .ok (.aload_n 0, 1) := by decide +kernel
theorem dX7_septetsIn_15 : decode cX7_septetsIn 15 = .ok (.iload 4, 2) := by decide +kernel
theorem dX7_septetsIn_17 : decode cX7_septetsIn 17 = .ok (.iaload, 1) := by decide +kernel
theorem dX7_septetsIn_18 : decode cX7_septetsIn 18 = .ok (.invokestatic 78, 3) := by decide +kernel
theorem dX7_septetsIn_21 : decode cX7_septetsIn 21 = .ok (.iadd, 1) := by decide +kernel
theorem dX7_septetsIn_22 : decode cX7_septetsIn 22 = .ok (.istore_n 3, 1) := by decide +kernel
theorem dX7_septetsIn_23 : decode cX7_septetsIn 23 = .ok (.iinc 4 1, 3) := by decide +kernel
theorem dX7_septetsIn_26 : decode cX7_septetsIn 26 = .ok (.goto (-21), 3) := by decide +kernel
theorem dX7_septetsIn_29 : decode cX7_septetsIn 29 = .ok (.iload_n 3, 1) := by decide +kernel
theorem dX7_septetsIn_30 : decode cX7_septetsIn 30 = .ok (.ireturn, 1) := by decide +kernel
theorem dX7_signsOf_0 : decode cX7_signsOf 0 = .ok (.aload_n 0, 1) := by decide +kernel
theorem dX7_signsOf_1 : decode cX7_signsOf 1 = .ok (.iload_n 1, 1) := by decide +kernel
theorem dX7_signsOf_2 : decode cX7_signsOf 2 = .ok (.iload_n 2, 1) := by decide +kernel
theorem dX7_signsOf_3 : decode cX7_signsOf 3 = .ok (.invokestatic 82, 3) := by decide +kernel
theorem dX7_signsOf_6 : decode cX7_signsOf 6 = .ok (.istore 4, 2) := by decide +kernel
theorem dX7_signsOf_8 : decode cX7_signsOf 8 = .ok (.iload 4, 2) := by decide +kernel
theorem dX7_signsOf_10 : decode cX7_signsOf 10 = .ok (.ifCond .eq 12, 3) := by decide +kernel
theorem dX7_signsOf_13 : decode cX7_signsOf 13 = .ok (.iload_n 2, 1) := by decide +kernel
theorem dX7_signsOf_14 : decode cX7_signsOf 14 = .ok (.bipush 70, 2) := by decide +kernel
theorem dX7_signsOf_16 : decode cX7_signsOf 16 = .ok (.if_icmp .gt 28, 3) := by decide +kernel
theorem dX7_signsOf_19 : decode cX7_signsOf 19 = .ok (.goto 15, 3) := by decide +kernel
theorem dX7_signsOf_22 : decode cX7_signsOf 22 = .ok (.aload_n 0, 1) := by decide +kernel
theorem dX7_signsOf_23 : decode cX7_signsOf 23 = .ok (.iload_n 1, 1) := by decide +kernel
theorem dX7_signsOf_24 : decode cX7_signsOf 24 = .ok (.iload_n 2, 1) := by decide +kernel
theorem dX7_signsOf_25 : decode cX7_signsOf 25 = .ok (.invokestatic 86, 3) := by decide +kernel
theorem dX7_signsOf_28 : decode cX7_signsOf 28 = .ok (.sipush 160, 3) := by decide +kernel
theorem dX7_signsOf_31 : decode cX7_signsOf 31 = .ok (.if_icmp .gt 13, 3) := by decide +kernel
theorem dX7_signsOf_34 : decode cX7_signsOf 34 = .ok (.iload_n 3, 1) := by decide +kernel
theorem dX7_signsOf_35 : decode cX7_signsOf 35 = .ok (.ifCond .ne 7, 3) := by decide +kernel
theorem dX7_signsOf_38 : decode cX7_signsOf 38 = .ok (.iload_n 2, 1) := by decide +kernel
theorem dX7_signsOf_39 : decode cX7_signsOf 39 = .ok (.goto 4, 3) := by decide +kernel
theorem dX7_signsOf_42 : decode cX7_signsOf 42 = .ok (.iconst 0, 1) := by decide +kernel
theorem dX7_signsOf_43 : decode cX7_signsOf 43 = .ok (.ireturn, 1) := by decide +kernel
theorem dX7_signsOf_44 : decode cX7_signsOf 44 = .ok (.iconst 0, 1) := by decide +kernel
theorem dX7_signsOf_45 : decode cX7_signsOf 45 = .ok (.istore 5, 2) := by decide +kernel
theorem dX7_signsOf_47 : decode cX7_signsOf 47 = .ok (.iconst 0, 1) := by decide +kernel
theorem dX7_signsOf_48 : decode cX7_signsOf 48 = .ok (.istore 6, 2) := by decide +kernel
theorem dX7_signsOf_50 : decode cX7_signsOf 50 = .ok (.iconst 0, 1) := by decide +kernel
theorem dX7_signsOf_51 : decode cX7_signsOf 51 = .ok (.istore 7, 2) := by decide +kernel
theorem dX7_signsOf_53 : decode cX7_signsOf 53 = .ok (.iload 7, 2) := by decide +kernel
theorem dX7_signsOf_55 : decode cX7_signsOf 55 = .ok (.iload_n 3, 1) := by decide +kernel
theorem dX7_signsOf_56 : decode cX7_signsOf 56 = .ok (.if_icmp .gt 88, 3) := by decide +kernel
theorem dX7_signsOf_59 : decode cX7_signsOf 59 = .ok (.iconst 0, 1) := by decide +kernel
theorem dX7_signsOf_60 : decode cX7_signsOf 60 = .ok (.istore 6, 2) := by decide +kernel
theorem dX7_signsOf_62 : decode cX7_signsOf 62 = .ok (.iload 4, 2) := by decide +kernel
theorem dX7_signsOf_64 : decode cX7_signsOf 64 = .ok (.ifCond .eq 8, 3) := by decide +kernel
theorem dX7_signsOf_67 : decode cX7_signsOf 67 = .ok (.bipush 67, 2) := by decide +kernel
theorem dX7_signsOf_69 : decode cX7_signsOf 69 = .ok (.goto 6, 3) := by decide +kernel
theorem dX7_signsOf_72 : decode cX7_signsOf 72 = .ok (.sipush 153, 3) := by decide +kernel
theorem dX7_signsOf_75 : decode cX7_signsOf 75 = .ok (.istore 8, 2) := by decide +kernel
theorem dX7_signsOf_77 : decode cX7_signsOf 77 = .ok (.iload 5, 2) := by decide +kernel
theorem dX7_signsOf_79 : decode cX7_signsOf 79 = .ok (.iload_n 2, 1) := by decide +kernel
theorem dX7_signsOf_80 : decode cX7_signsOf 80 = .ok (.if_icmp .ge 58, 3) := by decide +kernel
theorem dX7_signsOf_83 : decode cX7_signsOf 83 = .ok (.iload 4, 2) := by decide +kernel
theorem dX7_signsOf_85 : decode cX7_signsOf 85 = .ok (.ifCond .eq 7, 3) := by decide +kernel
theorem dX7_signsOf_88 : decode cX7_signsOf 88 = .ok (.iconst 1, 1) := by decide +kernel
theorem dX7_signsOf_89 : decode cX7_signsOf 89 = .ok (.goto 12, 3) := by decide +kernel
theorem dX7_signsOf_92 : decode cX7_signsOf 92 = .ok (.aload_n 0, 1) := by decide +kernel
theorem dX7_signsOf_93 : decode cX7_signsOf 93 = .ok (.iload_n 1, 1) := by decide +kernel
theorem dX7_signsOf_94 : decode cX7_signsOf 94 = .ok (.iload 5, 2) := by decide +kernel
theorem dX7_signsOf_96 : decode cX7_signsOf 96 = .ok (.iadd, 1) := by decide +kernel
theorem dX7_signsOf_97 : decode cX7_signsOf 97 = .ok (.iaload, 1) := by decide +kernel
theorem dX7_signsOf_98 : decode cX7_signsOf 98 = .ok (.invokestatic 78, 3) := by decide +kernel
theorem dX7_signsOf_101 : decode cX7_signsOf 101 = .ok (.iload 8, 2) := by decide +kernel
theorem dX7_signsOf_103 : decode cX7_signsOf 103 = .ok (.if_icmp .gt 35, 3) := by decide +kernel
theorem dX7_signsOf_106 : decode cX7_signsOf 106 = .ok (.iload 8, 2) := by decide +kernel
theorem dX7_signsOf_108 : decode cX7_signsOf 108 = .ok (.iload 4, 2) := by decide +kernel
theorem dX7_signsOf_110 : decode cX7_signsOf 110 = .ok (.ifCond .eq 7, 3) := by decide +kernel
theorem dX7_signsOf_113 : decode cX7_signsOf 113 = .ok (.iconst 1, 1) := by decide +kernel
theorem dX7_signsOf_114 : decode cX7_signsOf 114 = .ok (.goto 12, 3) := by decide +kernel
theorem dX7_signsOf_117 : decode cX7_signsOf 117 = .ok (.aload_n 0, 1) := by decide +kernel
theorem dX7_signsOf_118 : decode cX7_signsOf 118 = .ok (.iload_n 1, 1) := by decide +kernel
theorem dX7_signsOf_119 : decode cX7_signsOf 119 = .ok (.iload 5, 2) := by decide +kernel
theorem dX7_signsOf_121 : decode cX7_signsOf 121 = .ok (.iadd, 1) := by decide +kernel
theorem dX7_signsOf_122 : decode cX7_signsOf 122 = .ok (.iaload, 1) := by decide +kernel
theorem dX7_signsOf_123 : decode cX7_signsOf 123 = .ok (.invokestatic 78, 3) := by decide +kernel
theorem dX7_signsOf_126 : decode cX7_signsOf 126 = .ok (.isub, 1) := by decide +kernel
theorem dX7_signsOf_127 : decode cX7_signsOf 127 = .ok (.istore 8, 2) := by decide +kernel
theorem dX7_signsOf_129 : decode cX7_signsOf 129 = .ok (.iinc 5 1, 3) := by decide +kernel
theorem dX7_signsOf_132 : decode cX7_signsOf 132 = .ok (.iinc 6 1, 3) := by decide +kernel
theorem dX7_signsOf_135 : decode cX7_signsOf 135 = .ok (.goto (-58), 3) := by decide +kernel
theorem dX7_signsOf_138 : decode cX7_signsOf 138 = .ok (.iinc 7 1, 3) := by decide +kernel
theorem dX7_signsOf_141 : decode cX7_signsOf 141 = .ok (.goto (-88), 3) := by decide +kernel
theorem dX7_signsOf_144 : decode cX7_signsOf 144 = .ok (.iload 6, 2) := by decide +kernel
theorem dX7_signsOf_146 : decode cX7_signsOf 146 = .ok (.ireturn, 1) := by decide +kernel
theorem dX7_partsOf_0 : decode cX7_partsOf 0 = .ok (.iconst 0, 1) := by decide +kernel
theorem dX7_partsOf_1 : decode cX7_partsOf 1 = .ok (.istore_n 3, 1) := by decide +kernel
theorem dX7_partsOf_2 : decode cX7_partsOf 2 = .ok (.aload_n 0, 1) := by decide +kernel
theorem dX7_partsOf_3 : decode cX7_partsOf 3 = .ok (.iload_n 1, 1) := by decide +kernel
theorem dX7_partsOf_4 : decode cX7_partsOf 4 = .ok (.iload_n 2, 1) := by decide +kernel
theorem dX7_partsOf_5 : decode cX7_partsOf 5 = .ok (.iload_n 3, 1) := by decide +kernel
theorem dX7_partsOf_6 : decode cX7_partsOf 6 = .ok (.invokestatic 90, 3) := by decide +kernel
theorem dX7_partsOf_9 : decode cX7_partsOf 9 = .ok (.ifCond .le 9, 3) := by decide +kernel
theorem dX7_partsOf_12 : decode cX7_partsOf 12 = .ok (.iinc 3 1, 3) := by decide +kernel
theorem dX7_partsOf_15 : decode cX7_partsOf 15 = .ok (.goto (-13), 3) := by decide +kernel
theorem dX7_partsOf_18 : decode cX7_partsOf 18 = .ok (.iload_n 3, 1) := by decide +kernel
theorem dX7_partsOf_19 : decode cX7_partsOf 19 = .ok (.ireturn, 1) := by decide +kernel
theorem dX7_begins_0 : decode cX7_begins 0 = .ok (.iconst 0, 1) := by decide +kernel
theorem dX7_begins_1 : decode cX7_begins 1 = .ok (.istore 4, 2) := by decide +kernel
theorem dX7_begins_3 : decode cX7_begins 3 = .ok (.iconst 0, 1) := by decide +kernel
theorem dX7_begins_4 : decode cX7_begins 4 = .ok (.istore 5, 2) := by decide +kernel
theorem dX7_begins_6 : decode cX7_begins 6 = .ok (.iload 5, 2) := by decide +kernel
theorem dX7_begins_8 : decode cX7_begins 8 = .ok (.iload_n 3, 1) := by decide +kernel
theorem dX7_begins_9 : decode cX7_begins 9 = .ok (.if_icmp .ge 22, 3) := by decide +kernel
theorem dX7_begins_12 : decode cX7_begins 12 = .ok (.iload 4, 2) := by decide +kernel
theorem dX7_begins_14 : decode cX7_begins 14 = .ok (.aload_n 0, 1) := by decide +kernel
theorem dX7_begins_15 : decode cX7_begins 15 = .ok (.iload_n 1, 1) := by decide +kernel
theorem dX7_begins_16 : decode cX7_begins 16 = .ok (.iload_n 2, 1) := by decide +kernel
theorem dX7_begins_17 : decode cX7_begins 17 = .ok (.iload 5, 2) := by decide +kernel
theorem dX7_begins_19 : decode cX7_begins 19 = .ok (.invokestatic 90, 3) := by decide +kernel
theorem dX7_begins_22 : decode cX7_begins 22 = .ok (.iadd, 1) := by decide +kernel
theorem dX7_begins_23 : decode cX7_begins 23 = .ok (.istore 4, 2) := by decide +kernel
theorem dX7_begins_25 : decode cX7_begins 25 = .ok (.iinc 5 1, 3) := by decide +kernel
theorem dX7_begins_28 : decode cX7_begins 28 = .ok (.goto (-22), 3) := by decide +kernel
theorem dX7_begins_31 : decode cX7_begins 31 = .ok (.iload 4, 2) := by decide +kernel
theorem dX7_begins_33 : decode cX7_begins 33 = .ok (.ireturn, 1) := by decide +kernel
theorem dX7_write_0 : decode cX7_write 0 = .ok (.iload_n 1, 1) := by decide +kernel
theorem dX7_write_1 : decode cX7_write 1 = .ok (.iconst 0, 1) := by decide +kernel
theorem dX7_write_2 : decode cX7_write 2 = .ok (.sipush 999, 3) := by decide +kernel
theorem dX7_write_5 : decode cX7_write 5 = .ok (.invokestatic 94, 3) := by decide +kernel
theorem dX7_write_8 : decode cX7_write 8 = .ok (.ifCond .eq 18, 3) := by decide +kernel
theorem dX7_write_11 : decode cX7_write 11 = .ok (.iload_n 2, 1) := by decide +kernel
theorem dX7_write_12 : decode cX7_write 12 = .ok (.iconst 1, 1) := by decide +kernel
theorem dX7_write_13 : decode cX7_write 13 = .ok (.sipush 200, 3) := by decide +kernel
theorem dX7_write_16 : decode cX7_write 16 = .ok (.invokestatic 94, 3) := by decide +kernel
theorem dX7_write_19 : decode cX7_write 19 = .ok (.ifCond .eq 7, 3) := by decide +kernel
theorem dX7_write_22 : decode cX7_write 22 = .ok (.iconst 1, 1) := by decide +kernel
theorem dX7_write_23 : decode cX7_write 23 = .ok (.goto 4, 3) := by decide +kernel
theorem dX7_write_26 : decode cX7_write 26 = .ok (.iconst 0, 1) := by decide +kernel
theorem dX7_write_27 : decode cX7_write 27 = .ok (.istore_n 3, 1) := by decide +kernel
theorem dX7_write_28 : decode cX7_write 28 = .ok (.aload_n 0, 1) := by decide +kernel
theorem dX7_write_29 : decode cX7_write 29 = .ok (.iload_n 3, 1) := by decide +kernel
theorem dX7_write_30 : decode cX7_write 30 = .ok (.ifCond .ne 7, 3) := by decide +kernel
theorem dX7_write_33 : decode cX7_write 33 = .ok (.iconst 1, 1) := by decide +kernel
theorem dX7_write_34 : decode cX7_write 34 = .ok (.goto 20, 3) := by decide +kernel
theorem dX7_write_37 : decode cX7_write 37 = .ok (.aload_n 0, 1) := by decide +kernel
theorem dX7_write_38 : decode cX7_write 38 = .ok (.getfield 98, 3) := by decide +kernel
theorem dX7_write_41 : decode cX7_write 41 = .ok (.iload_n 2, 1) := by decide +kernel
theorem dX7_write_42 : decode cX7_write 42 = .ok (.iadd, 1) := by decide +kernel
theorem dX7_write_43 : decode cX7_write 43 = .ok (.sipush 400, 3) := by decide +kernel
theorem dX7_write_46 : decode cX7_write 46 = .ok (.if_icmp .le 7, 3) := by decide +kernel
theorem dX7_write_49 : decode cX7_write 49 = .ok (.iconst 2, 1) := by decide +kernel
theorem dX7_write_50 : decode cX7_write 50 = .ok (.goto 4, 3) := by decide +kernel
theorem dX7_write_53 : decode cX7_write 53 = .ok (.iconst 0, 1) := by decide +kernel
theorem dX7_write_54 : decode cX7_write 54 = .ok (.invokevirtual 101, 3) := by decide +kernel
theorem dX7_write_57 : decode cX7_write 57 = .ok (.ifCond .eq 5, 3) := by decide +kernel
theorem dX7_write_60 : decode cX7_write 60 = .ok (.iconst 0, 1) := by decide +kernel
theorem dX7_write_61 : decode cX7_write 61 = .ok (.ireturn, 1) := by decide +kernel
theorem dX7_write_62 : decode cX7_write 62 = .ok (.iconst 0, 1) := by decide +kernel
theorem dX7_write_63 : decode cX7_write 63 = .ok (.istore 4, 2) := by decide +kernel
theorem dX7_write_65 : decode cX7_write 65 = .ok (.iload 4, 2) := by decide +kernel
theorem dX7_write_67 : decode cX7_write 67 = .ok (.iload_n 2, 1) := by decide +kernel
theorem dX7_write_68 : decode cX7_write 68 = .ok (.if_icmp .ge 29, 3) := by decide +kernel
theorem dX7_write_71 : decode cX7_write 71 = .ok (.aload_n 0, 1) := by decide +kernel
theorem dX7_write_72 : decode cX7_write 72 = .ok (.getfield 7, 3) := by decide +kernel
theorem dX7_write_75 : decode cX7_write 75 = .ok (.aload_n 0, 1) := by decide +kernel
theorem dX7_write_76 : decode cX7_write 76 = .ok (.getfield 98, 3) := by decide +kernel
theorem dX7_write_79 : decode cX7_write 79 = .ok (.iload_n 1, 1) := by decide +kernel
theorem dX7_write_80 : decode cX7_write 80 = .ok (.iastore, 1) := by decide +kernel
theorem dX7_write_81 : decode cX7_write 81 = .ok (.aload_n 0, 1) := by decide +kernel
theorem dX7_write_82 : decode cX7_write 82 = .ok (.dup, 1) := by decide +kernel
theorem dX7_write_83 : decode cX7_write 83 = .ok (.getfield 98, 3) := by decide +kernel
theorem dX7_write_86 : decode cX7_write 86 = .ok (.iconst 1, 1) := by decide +kernel
theorem dX7_write_87 : decode cX7_write 87 = .ok (.iadd, 1) := by decide +kernel
theorem dX7_write_88 : decode cX7_write 88 = .ok (.putfield 98, 3) := by decide +kernel
theorem dX7_write_91 : decode cX7_write 91 = .ok (.iinc 4 1, 3) := by decide +kernel
theorem dX7_write_94 : decode cX7_write 94 = .ok (.goto (-29), 3) := by decide +kernel
theorem dX7_write_97 : decode cX7_write 97 = .ok (.aload_n 0, 1) := by decide +kernel
theorem dX7_write_98 : decode cX7_write 98 = .ok (.getfield 98, 3) := by decide +kernel
theorem dX7_write_101 : decode cX7_write 101 = .ok (.ireturn, 1) := by decide +kernel
theorem dX7_erase_0 : decode cX7_erase 0 = .ok (.aload_n 0, 1) := by decide +kernel
theorem dX7_erase_1 : decode cX7_erase 1 = .ok (.iconst 0, 1) := by decide +kernel
theorem dX7_erase_2 : decode cX7_erase 2 = .ok (.putfield 74, 3) := by decide +kernel
theorem dX7_erase_5 : decode cX7_erase 5 = .ok (.aload_n 0, 1) := by decide +kernel
theorem dX7_erase_6 : decode cX7_erase 6 = .ok (.getfield 98, 3) := by decide +kernel
theorem dX7_erase_9 : decode cX7_erase 9 = .ok (.istore_n 1, 1) := by decide +kernel
theorem dX7_erase_10 : decode cX7_erase 10 = .ok (.aload_n 0, 1) := by decide +kernel
theorem dX7_erase_11 : decode cX7_erase 11 = .ok (.iconst 0, 1) := by decide +kernel
theorem dX7_erase_12 : decode cX7_erase 12 = .ok (.putfield 98, 3) := by decide +kernel
theorem dX7_erase_15 : decode cX7_erase 15 = .ok (.iload_n 1, 1) := by decide +kernel
theorem dX7_erase_16 : decode cX7_erase 16 = .ok (.ireturn, 1) := by decide +kernel
theorem dX7_isWide_0 : decode cX7_isWide 0 = .ok (.aload_n 0, 1) := by decide +kernel
theorem dX7_isWide_1 : decode cX7_isWide 1 = .ok (.iconst 0, 1) := by decide +kernel
theorem dX7_isWide_2 : decode cX7_isWide 2 = .ok (.putfield 74, 3) := by decide +kernel
theorem dX7_isWide_5 : decode cX7_isWide 5 = .ok (.aload_n 0, 1) := by decide +kernel
theorem dX7_isWide_6 : decode cX7_isWide 6 = .ok (.getfield 7, 3) := by decide +kernel
theorem dX7_isWide_9 : decode cX7_isWide 9 = .ok (.iconst 0, 1) := by decide +kernel
theorem dX7_isWide_10 : decode cX7_isWide 10 = .ok (.aload_n 0, 1) := by decide +kernel
theorem dX7_isWide_11 : decode cX7_isWide 11 = .ok (.getfield 98, 3) := by decide +kernel
theorem dX7_isWide_14 : decode cX7_isWide 14 = .ok (.invokestatic 82, 3) := by decide +kernel
theorem dX7_isWide_17 : decode cX7_isWide 17 = .ok (.ireturn, 1) := by decide +kernel
theorem dX7_septets_0 : decode cX7_septets 0 = .ok (.aload_n 0, 1) := by decide +kernel
theorem dX7_septets_1 : decode cX7_septets 1 = .ok (.aload_n 0, 1) := by decide +kernel
theorem dX7_septets_2 : decode cX7_septets 2 = .ok (.getfield 7, 3) := by decide +kernel
theorem dX7_septets_5 : decode cX7_septets 5 = .ok (.iconst 0, 1) := by decide +kernel
theorem dX7_septets_6 : decode cX7_septets 6 = .ok (.aload_n 0, 1) := by decide +kernel
theorem dX7_septets_7 : decode cX7_septets 7 = .ok (.getfield 98, 3) := by decide +kernel
theorem dX7_septets_10 : decode cX7_septets 10 = .ok (.invokestatic 82, 3) := by decide +kernel
theorem dX7_septets_13 : decode cX7_septets 13 = .ok (.ifCond .eq 7, 3) := by decide +kernel
theorem dX7_septets_16 : decode cX7_septets 16 = .ok (.iconst 1, 1) := by decide +kernel
theorem dX7_septets_17 : decode cX7_septets 17 = .ok (.goto 4, 3) := by decide +kernel
theorem dX7_septets_20 : decode cX7_septets 20 = .ok (.iconst 0, 1) := by decide +kernel
theorem dX7_septets_21 : decode cX7_septets 21 = .ok (.invokevirtual 101, 3) := by decide +kernel
theorem dX7_septets_24 : decode cX7_septets 24 = .ok (.ifCond .eq 7, 3) := by decide +kernel
theorem dX7_septets_27 : decode cX7_septets 27 = .ok (.iconst 0, 1) := by decide +kernel
theorem dX7_septets_28 : decode cX7_septets 28 = .ok (.goto 15, 3) := by decide +kernel
theorem dX7_septets_31 : decode cX7_septets 31 = .ok (.aload_n 0, 1) := by decide +kernel
theorem dX7_septets_32 : decode cX7_septets 32 = .ok (.getfield 7, 3) := by decide +kernel
theorem dX7_septets_35 : decode cX7_septets 35 = .ok (.iconst 0, 1) := by decide +kernel
theorem dX7_septets_36 : decode cX7_septets 36 = .ok (.aload_n 0, 1) := by decide +kernel
theorem dX7_septets_37 : decode cX7_septets 37 = .ok (.getfield 98, 3) := by decide +kernel
theorem dX7_septets_40 : decode cX7_septets 40 = .ok (.invokestatic 86, 3) := by decide +kernel
theorem dX7_septets_43 : decode cX7_septets 43 = .ok (.ireturn, 1) := by decide +kernel
theorem dX7_parts_0 : decode cX7_parts 0 = .ok (.aload_n 0, 1) := by decide +kernel
theorem dX7_parts_1 : decode cX7_parts 1 = .ok (.aload_n 0, 1) := by decide +kernel
theorem dX7_parts_2 : decode cX7_parts 2 = .ok (.getfield 7, 3) := by decide +kernel
theorem dX7_parts_5 : decode cX7_parts 5 = .ok (.iconst 0, 1) := by decide +kernel
theorem dX7_parts_6 : decode cX7_parts 6 = .ok (.aload_n 0, 1) := by decide +kernel
theorem dX7_parts_7 : decode cX7_parts 7 = .ok (.getfield 98, 3) := by decide +kernel
theorem dX7_parts_10 : decode cX7_parts 10 = .ok (.invokestatic 105, 3) := by decide +kernel
theorem dX7_parts_13 : decode cX7_parts 13 = .ok (.invokevirtual 108, 3) := by decide +kernel
theorem dX7_parts_16 : decode cX7_parts 16 = .ok (.ireturn, 1) := by decide +kernel
theorem dX7_isPart_0 : decode cX7_isPart 0 = .ok (.iload_n 1, 1) := by decide +kernel
theorem dX7_isPart_1 : decode cX7_isPart 1 = .ok (.ifCond .lt 23, 3) := by decide +kernel
theorem dX7_isPart_4 : decode cX7_isPart 4 = .ok (.iload_n 1, 1) := by decide +kernel
theorem dX7_isPart_5 : decode cX7_isPart 5 = .ok (.aload_n 0, 1) := by decide +kernel
theorem dX7_isPart_6 : decode cX7_isPart 6 = .ok (.getfield 7, 3) := by decide +kernel
theorem dX7_isPart_9 : decode cX7_isPart 9 = .ok (.iconst 0, 1) := by decide +kernel
theorem dX7_isPart_10 : decode cX7_isPart 10 = .ok (.aload_n 0, 1) := by decide +kernel
theorem dX7_isPart_11 : decode cX7_isPart 11 = .ok (.getfield 98, 3) := by decide +kernel
theorem dX7_isPart_14 : decode cX7_isPart 14 = .ok (.invokestatic 105, 3) := by decide +kernel
theorem dX7_isPart_17 : decode cX7_isPart 17 = .ok (.if_icmp .ge 7, 3) := by decide +kernel
theorem dX7_isPart_20 : decode cX7_isPart 20 = .ok (.iconst 1, 1) := by decide +kernel
theorem dX7_isPart_21 : decode cX7_isPart 21 = .ok (.goto 4, 3) := by decide +kernel
theorem dX7_isPart_24 : decode cX7_isPart 24 = .ok (.iconst 0, 1) := by decide +kernel
theorem dX7_isPart_25 : decode cX7_isPart 25 = .ok (.ireturn, 1) := by decide +kernel
theorem dX7_signs_0 : decode cX7_signs 0 = .ok (.aload_n 0, 1) := by decide +kernel
theorem dX7_signs_1 : decode cX7_signs 1 = .ok (.aload_n 0, 1) := by decide +kernel
theorem dX7_signs_2 : decode cX7_signs 2 = .ok (.iload_n 1, 1) := by decide +kernel
theorem dX7_signs_3 : decode cX7_signs 3 = .ok (.invokevirtual 111, 3) := by decide +kernel
theorem dX7_signs_6 : decode cX7_signs 6 = .ok (.ifCond .eq 7, 3) := by decide +kernel
theorem dX7_signs_9 : decode cX7_signs 9 = .ok (.iconst 0, 1) := by decide +kernel
theorem dX7_signs_10 : decode cX7_signs 10 = .ok (.goto 4, 3) := by decide +kernel
theorem dX7_signs_13 : decode cX7_signs 13 = .ok (.iconst 1, 1) := by decide +kernel
theorem dX7_signs_14 : decode cX7_signs 14 = .ok (.invokevirtual 101, 3) := by decide +kernel
theorem dX7_signs_17 : decode cX7_signs 17 = .ok (.ifCond .eq 7, 3) := by decide +kernel
theorem dX7_signs_20 : decode cX7_signs 20 = .ok (.iconst 0, 1) := by decide +kernel
theorem dX7_signs_21 : decode cX7_signs 21 = .ok (.goto 16, 3) := by decide +kernel
theorem dX7_signs_24 : decode cX7_signs 24 = .ok (.aload_n 0, 1) := by decide +kernel
theorem dX7_signs_25 : decode cX7_signs 25 = .ok (.getfield 7, 3) := by decide +kernel
theorem dX7_signs_28 : decode cX7_signs 28 = .ok (.iconst 0, 1) := by decide +kernel
theorem dX7_signs_29 : decode cX7_signs 29 = .ok (.aload_n 0, 1) := by decide +kernel
theorem dX7_signs_30 : decode cX7_signs 30 = .ok (.getfield 98, 3) := by decide +kernel
theorem dX7_signs_33 : decode cX7_signs 33 = .ok (.iload_n 1, 1) := by decide +kernel
theorem dX7_signs_34 : decode cX7_signs 34 = .ok (.invokestatic 90, 3) := by decide +kernel
theorem dX7_signs_37 : decode cX7_signs 37 = .ok (.ireturn, 1) := by decide +kernel
theorem dX7_octetsOf_0 : decode cX7_octetsOf 0 = .ok (.aload_n 0, 1) := by decide +kernel
theorem dX7_octetsOf_1 : decode cX7_octetsOf 1 = .ok (.getfield 7, 3) := by decide +kernel
theorem dX7_octetsOf_4 : decode cX7_octetsOf 4 = .ok (.iconst 0, 1) := by decide +kernel
theorem dX7_octetsOf_5 : decode cX7_octetsOf 5 = .ok (.aload_n 0, 1) := by decide +kernel
theorem dX7_octetsOf_6 : decode cX7_octetsOf 6 = .ok (.getfield 98, 3) := by decide +kernel
theorem dX7_octetsOf_9 : decode cX7_octetsOf 9 = .ok (.iload_n 1, 1) := by decide +kernel
theorem dX7_octetsOf_10 : decode cX7_octetsOf 10 = .ok (.invokestatic 90, 3) := by decide +kernel
theorem dX7_octetsOf_13 : decode cX7_octetsOf 13 = .ok (.istore_n 2, 1) := by decide +kernel
theorem dX7_octetsOf_14 : decode cX7_octetsOf 14 = .ok (.aload_n 0, 1) := by decide +kernel
theorem dX7_octetsOf_15 : decode cX7_octetsOf 15 = .ok (.getfield 7, 3) := by decide +kernel
theorem dX7_octetsOf_18 : decode cX7_octetsOf 18 = .ok (.iconst 0, 1) := by decide +kernel
theorem dX7_octetsOf_19 : decode cX7_octetsOf 19 = .ok (.aload_n 0, 1) := by decide +kernel
theorem dX7_octetsOf_20 : decode cX7_octetsOf 20 = .ok (.getfield 98, 3) := by decide +kernel
theorem dX7_octetsOf_23 : decode cX7_octetsOf 23 = .ok (.iload_n 1, 1) := by decide +kernel
theorem dX7_octetsOf_24 : decode cX7_octetsOf 24 = .ok (.invokestatic 114, 3) := by decide +kernel
theorem dX7_octetsOf_27 : decode cX7_octetsOf 27 = .ok (.istore_n 3, 1) := by decide +kernel
theorem dX7_octetsOf_28 : decode cX7_octetsOf 28 = .ok (.aload_n 0, 1) := by decide +kernel
theorem dX7_octetsOf_29 : decode cX7_octetsOf 29 = .ok (.getfield 7, 3) := by decide +kernel
theorem dX7_octetsOf_32 : decode cX7_octetsOf 32 = .ok (.iconst 0, 1) := by decide +kernel
theorem dX7_octetsOf_33 : decode cX7_octetsOf 33 = .ok (.aload_n 0, 1) := by decide +kernel
theorem dX7_octetsOf_34 : decode cX7_octetsOf 34 = .ok (.getfield 98, 3) := by decide +kernel
theorem dX7_octetsOf_37 : decode cX7_octetsOf 37 = .ok (.invokestatic 82, 3) := by decide +kernel
theorem dX7_octetsOf_40 : decode cX7_octetsOf 40 = .ok (.ifCond .eq 9, 3) := by decide +kernel
theorem dX7_octetsOf_43 : decode cX7_octetsOf 43 = .ok (.iconst 2, 1) := by decide +kernel
theorem dX7_octetsOf_44 : decode cX7_octetsOf 44 = .ok (.iload_n 2, 1) := by decide +kernel
theorem dX7_octetsOf_45 : decode cX7_octetsOf 45 = .ok (.imul, 1) := by decide +kernel
theorem dX7_octetsOf_46 : decode cX7_octetsOf 46 = .ok (.goto 21, 3) := by decide +kernel
theorem dX7_octetsOf_49 : decode cX7_octetsOf 49 = .ok (.bipush 7, 2) := by decide +kernel
theorem dX7_octetsOf_51 : decode cX7_octetsOf 51 = .ok (.aload_n 0, 1) := by decide +kernel
theorem dX7_octetsOf_52 : decode cX7_octetsOf 52 = .ok (.getfield 7, 3) := by decide +kernel
theorem dX7_octetsOf_55 : decode cX7_octetsOf 55 = .ok (.iload_n 3, 1) := by decide +kernel
theorem dX7_octetsOf_56 : decode cX7_octetsOf 56 = .ok (.iload_n 2, 1) := by decide +kernel
theorem dX7_octetsOf_57 : decode cX7_octetsOf 57 = .ok (.invokestatic 86, 3) := by decide +kernel
theorem dX7_octetsOf_60 : decode cX7_octetsOf 60 = .ok (.imul, 1) := by decide +kernel
theorem dX7_octetsOf_61 : decode cX7_octetsOf 61 = .ok (.bipush 7, 2) := by decide +kernel
theorem dX7_octetsOf_63 : decode cX7_octetsOf 63 = .ok (.iadd, 1) := by decide +kernel
theorem dX7_octetsOf_64 : decode cX7_octetsOf 64 = .ok (.bipush 8, 2) := by decide +kernel
theorem dX7_octetsOf_66 : decode cX7_octetsOf 66 = .ok (.idiv, 1) := by decide +kernel
theorem dX7_octetsOf_67 : decode cX7_octetsOf 67 = .ok (.ireturn, 1) := by decide +kernel
theorem dX7_octets_0 : decode cX7_octets 0 = .ok (.aload_n 0, 1) := by decide +kernel
theorem dX7_octets_1 : decode cX7_octets 1 = .ok (.aload_n 0, 1) := by decide +kernel
theorem dX7_octets_2 : decode cX7_octets 2 = .ok (.iload_n 1, 1) := by decide +kernel
theorem dX7_octets_3 : decode cX7_octets 3 = .ok (.invokevirtual 111, 3) := by decide +kernel
theorem dX7_octets_6 : decode cX7_octets 6 = .ok (.ifCond .eq 7, 3) := by decide +kernel
theorem dX7_octets_9 : decode cX7_octets 9 = .ok (.iconst 0, 1) := by decide +kernel
theorem dX7_octets_10 : decode cX7_octets 10 = .ok (.goto 4, 3) := by decide +kernel
theorem dX7_octets_13 : decode cX7_octets 13 = .ok (.iconst 1, 1) := by decide +kernel
theorem dX7_octets_14 : decode cX7_octets 14 = .ok (.invokevirtual 101, 3) := by decide +kernel
theorem dX7_octets_17 : decode cX7_octets 17 = .ok (.ifCond .eq 7, 3) := by decide +kernel
theorem dX7_octets_20 : decode cX7_octets 20 = .ok (.iconst 0, 1) := by decide +kernel
theorem dX7_octets_21 : decode cX7_octets 21 = .ok (.goto 8, 3) := by decide +kernel
theorem dX7_octets_24 : decode cX7_octets 24 = .ok (.aload_n 0, 1) := by decide +kernel
theorem dX7_octets_25 : decode cX7_octets 25 = .ok (.iload_n 1, 1) := by decide +kernel
theorem dX7_octets_26 : decode cX7_octets 26 = .ok (.invokevirtual 117, 3) := by decide +kernel
theorem dX7_octets_29 : decode cX7_octets 29 = .ok (.ireturn, 1) := by decide +kernel
theorem dX7_septet_0 : decode cX7_septet 0 = .ok (.aload_n 0, 1) := by decide +kernel
theorem dX7_septet_1 : decode cX7_septet 1 = .ok (.getfield 7, 3) := by decide +kernel
theorem dX7_septet_4 : decode cX7_septet 4 = .ok (.iconst 0, 1) := by decide +kernel
theorem dX7_septet_5 : decode cX7_septet 5 = .ok (.aload_n 0, 1) := by decide +kernel
theorem dX7_septet_6 : decode cX7_septet 6 = .ok (.getfield 98, 3) := by decide +kernel
theorem dX7_septet_9 : decode cX7_septet 9 = .ok (.iload_n 1, 1) := by decide +kernel
theorem dX7_septet_10 : decode cX7_septet 10 = .ok (.invokestatic 114, 3) := by decide +kernel
theorem dX7_septet_13 : decode cX7_septet 13 = .ok (.istore_n 3, 1) := by decide +kernel
theorem dX7_septet_14 : decode cX7_septet 14 = .ok (.iload_n 2, 1) := by decide +kernel
theorem dX7_septet_15 : decode cX7_septet 15 = .ok (.istore 4, 2) := by decide +kernel
theorem dX7_septet_17 : decode cX7_septet 17 = .ok (.iload_n 3, 1) := by decide +kernel
theorem dX7_septet_18 : decode cX7_septet 18 = .ok (.istore 5, 2) := by decide +kernel
theorem dX7_septet_20 : decode cX7_septet 20 = .ok (.iload 5, 2) := by decide +kernel
theorem dX7_septet_22 : decode cX7_septet 22 = .ok (.iload_n 3, 1) := by decide +kernel
theorem dX7_septet_23 : decode cX7_septet 23 = .ok (.aload_n 0, 1) := by decide +kernel
theorem dX7_septet_24 : decode cX7_septet 24 = .ok (.getfield 7, 3) := by decide +kernel
theorem dX7_septet_27 : decode cX7_septet 27 = .ok (.iconst 0, 1) := by decide +kernel
theorem dX7_septet_28 : decode cX7_septet 28 = .ok (.aload_n 0, 1) := by decide +kernel
theorem dX7_septet_29 : decode cX7_septet 29 = .ok (.getfield 98, 3) := by decide +kernel
theorem dX7_septet_32 : decode cX7_septet 32 = .ok (.iload_n 1, 1) := by decide +kernel
theorem dX7_septet_33 : decode cX7_septet 33 = .ok (.invokestatic 90, 3) := by decide +kernel
theorem dX7_septet_36 : decode cX7_septet 36 = .ok (.iadd, 1) := by decide +kernel
theorem dX7_septet_37 : decode cX7_septet 37 = .ok (.if_icmp .ge 84, 3) := by decide +kernel
theorem dX7_septet_40 : decode cX7_septet 40 = .ok (.iload 4, 2) := by decide +kernel
theorem dX7_septet_42 : decode cX7_septet 42 = .ok (.aload_n 0, 1) := by decide +kernel
theorem dX7_septet_43 : decode cX7_septet 43 = .ok (.getfield 7, 3) := by decide +kernel
theorem dX7_septet_46 : decode cX7_septet 46 = .ok (.iload 5, 2) := by decide +kernel
theorem dX7_septet_48 : decode cX7_septet 48 = .ok (.iaload, 1) := by decide +kernel
theorem dX7_septet_49 : decode cX7_septet 49 = .ok (.invokestatic 78, 3) := by decide +kernel
theorem dX7_septet_52 : decode cX7_septet 52 = .ok (.if_icmp .ge 48, 3) := by decide +kernel
theorem dX7_septet_55 : decode cX7_septet 55 = .ok (.aload_n 0, 1) := by decide +kernel
theorem dX7_septet_56 : decode cX7_septet 56 = .ok (.getfield 7, 3) := by decide +kernel
theorem dX7_septet_59 : decode cX7_septet 59 = .ok (.iload 5, 2) := by decide +kernel
theorem dX7_septet_61 : decode cX7_septet 61 = .ok (.iaload, 1) := by decide +kernel
theorem dX7_septet_62 : decode cX7_septet 62 = .ok (.sipush 128, 3) := by decide +kernel
theorem dX7_septet_65 : decode cX7_septet 65 = .ok (.if_icmp .ge 13, 3) := by decide +kernel
theorem dX7_septet_68 : decode cX7_septet 68 = .ok (.aload_n 0, 1) := by decide +kernel
theorem dX7_septet_69 : decode cX7_septet 69 = .ok (.getfield 7, 3) := by decide +kernel
theorem dX7_septet_72 : decode cX7_septet 72 = .ok (.iload 5, 2) := by decide +kernel
theorem dX7_septet_74 : decode cX7_septet 74 = .ok (.iaload, 1) := by decide +kernel
theorem dX7_septet_75 : decode cX7_septet 75 = .ok (.goto 24, 3) := by decide +kernel
theorem dX7_septet_78 : decode cX7_septet 78 = .ok (.iload 4, 2) := by decide +kernel
theorem dX7_septet_80 : decode cX7_septet 80 = .ok (.ifCond .ne 8, 3) := by decide +kernel
theorem dX7_septet_83 : decode cX7_septet 83 = .ok (.bipush 27, 2) := by decide +kernel
theorem dX7_septet_85 : decode cX7_septet 85 = .ok (.goto 14, 3) := by decide +kernel
theorem dX7_septet_88 : decode cX7_septet 88 = .ok (.aload_n 0, 1) := by decide +kernel
theorem dX7_septet_89 : decode cX7_septet 89 = .ok (.getfield 7, 3) := by decide +kernel
theorem dX7_septet_92 : decode cX7_septet 92 = .ok (.iload 5, 2) := by decide +kernel
theorem dX7_septet_94 : decode cX7_septet 94 = .ok (.iaload, 1) := by decide +kernel
theorem dX7_septet_95 : decode cX7_septet 95 = .ok (.sipush 128, 3) := by decide +kernel
theorem dX7_septet_98 : decode cX7_septet 98 = .ok (.isub, 1) := by decide +kernel
theorem dX7_septet_99 : decode cX7_septet 99 = .ok (.ireturn, 1) := by decide +kernel
theorem dX7_septet_100 : decode cX7_septet 100 = .ok (.iload 4, 2) := by decide +kernel
theorem dX7_septet_102 : decode cX7_septet 102 = .ok (.aload_n 0, 1) := by decide +kernel
theorem dX7_septet_103 : decode cX7_septet 103 = .ok (.getfield 7, 3) := by decide +kernel
theorem dX7_septet_106 : decode cX7_septet 106 = .ok (.iload 5, 2) := by decide +kernel
theorem dX7_septet_108 : decode cX7_septet 108 = .ok (.iaload, 1) := by decide +kernel
theorem dX7_septet_109 : decode cX7_septet 109 = .ok (.invokestatic 78, 3) := by decide +kernel
theorem dX7_septet_112 : decode cX7_septet 112 = .ok (.isub, 1) := by decide +kernel
theorem dX7_septet_113 : decode cX7_septet 113 = .ok (.istore 4, 2) := by decide +kernel
theorem dX7_septet_115 : decode cX7_septet 115 = .ok (.iinc 5 1, 3) := by decide +kernel
theorem dX7_septet_118 : decode cX7_septet 118 = .ok (.goto (-98), 3) := by decide +kernel
theorem dX7_septet_121 : decode cX7_septet 121 = .ok (.iconst 0, 1) := by decide +kernel
theorem dX7_septet_122 : decode cX7_septet 122 = .ok (.ireturn, 1) := by decide +kernel
theorem dX7_octet_0 : decode cX7_octet 0 = .ok (.aload_n 0, 1) := by decide +kernel
theorem dX7_octet_1 : decode cX7_octet 1 = .ok (.iload_n 1, 1) := by decide +kernel
theorem dX7_octet_2 : decode cX7_octet 2 = .ok (.invokevirtual 111, 3) := by decide +kernel
theorem dX7_octet_5 : decode cX7_octet 5 = .ok (.ifCond .eq 20, 3) := by decide +kernel
theorem dX7_octet_8 : decode cX7_octet 8 = .ok (.iload_n 2, 1) := by decide +kernel
theorem dX7_octet_9 : decode cX7_octet 9 = .ok (.ifCond .lt 16, 3) := by decide +kernel
theorem dX7_octet_12 : decode cX7_octet 12 = .ok (.iload_n 2, 1) := by decide +kernel
theorem dX7_octet_13 : decode cX7_octet 13 = .ok (.aload_n 0, 1) := by decide +kernel
theorem dX7_octet_14 : decode cX7_octet 14 = .ok (.iload_n 1, 1) := by decide +kernel
theorem dX7_octet_15 : decode cX7_octet 15 = .ok (.invokevirtual 117, 3) := by decide +kernel
theorem dX7_octet_18 : decode cX7_octet 18 = .ok (.if_icmp .ge 7, 3) := by decide +kernel
theorem dX7_octet_21 : decode cX7_octet 21 = .ok (.iconst 1, 1) := by decide +kernel
theorem dX7_octet_22 : decode cX7_octet 22 = .ok (.goto 4, 3) := by decide +kernel
theorem dX7_octet_25 : decode cX7_octet 25 = .ok (.iconst 0, 1) := by decide +kernel
theorem dX7_octet_26 : decode cX7_octet 26 = .ok (.istore_n 3, 1) := by decide +kernel
theorem dX7_octet_27 : decode cX7_octet 27 = .ok (.aload_n 0, 1) := by decide +kernel
theorem dX7_octet_28 : decode cX7_octet 28 = .ok (.iload_n 3, 1) := by decide +kernel
theorem dX7_octet_29 : decode cX7_octet 29 = .ok (.ifCond .eq 7, 3) := by decide +kernel
theorem dX7_octet_32 : decode cX7_octet 32 = .ok (.iconst 0, 1) := by decide +kernel
theorem dX7_octet_33 : decode cX7_octet 33 = .ok (.goto 4, 3) := by decide +kernel
theorem dX7_octet_36 : decode cX7_octet 36 = .ok (.iconst 1, 1) := by decide +kernel
theorem dX7_octet_37 : decode cX7_octet 37 = .ok (.invokevirtual 101, 3) := by decide +kernel
theorem dX7_octet_40 : decode cX7_octet 40 = .ok (.ifCond .eq 5, 3) := by decide +kernel
theorem dX7_octet_43 : decode cX7_octet 43 = .ok (.iconst 0, 1) := by decide +kernel
theorem dX7_octet_44 : decode cX7_octet 44 = .ok (.ireturn, 1) := by decide +kernel
theorem dX7_octet_45 : decode cX7_octet 45 = .ok (.aload_n 0, 1) := by decide +kernel
theorem dX7_octet_46 : decode cX7_octet 46 = .ok (.getfield 7, 3) := by decide +kernel
theorem dX7_octet_49 : decode cX7_octet 49 = .ok (.iconst 0, 1) := by decide +kernel
theorem dX7_octet_50 : decode cX7_octet 50 = .ok (.aload_n 0, 1) := by decide +kernel
theorem dX7_octet_51 : decode cX7_octet 51 = .ok (.getfield 98, 3) := by decide +kernel
theorem dX7_octet_54 : decode cX7_octet 54 = .ok (.invokestatic 82, 3) := by decide +kernel
theorem dX7_octet_57 : decode cX7_octet 57 = .ok (.ifCond .eq 49, 3) := by decide +kernel
theorem dX7_octet_60 : decode cX7_octet 60 = .ok (.aload_n 0, 1) := by decide +kernel
theorem dX7_octet_61 : decode cX7_octet 61 = .ok (.getfield 7, 3) := by decide +kernel
theorem dX7_octet_64 : decode cX7_octet 64 = .ok (.aload_n 0, 1) := by decide +kernel
theorem dX7_octet_65 : decode cX7_octet 65 = .ok (.getfield 7, 3) := by decide +kernel
theorem dX7_octet_68 : decode cX7_octet 68 = .ok (.iconst 0, 1) := by decide +kernel
theorem dX7_octet_69 : decode cX7_octet 69 = .ok (.aload_n 0, 1) := by decide +kernel
theorem dX7_octet_70 : decode cX7_octet 70 = .ok (.getfield 98, 3) := by decide +kernel
theorem dX7_octet_73 : decode cX7_octet 73 = .ok (.iload_n 1, 1) := by decide +kernel
theorem dX7_octet_74 : decode cX7_octet 74 = .ok (.invokestatic 114, 3) := by decide +kernel
theorem dX7_octet_77 : decode cX7_octet 77 = .ok (.iload_n 2, 1) := by decide +kernel
theorem dX7_octet_78 : decode cX7_octet 78 = .ok (.iconst 2, 1) := by decide +kernel
theorem dX7_octet_79 : decode cX7_octet 79 = .ok (.idiv, 1) := by decide +kernel
theorem dX7_octet_80 : decode cX7_octet 80 = .ok (.iadd, 1) := by decide +kernel
theorem dX7_octet_81 : decode cX7_octet 81 = .ok (.iaload, 1) := by decide +kernel
theorem dX7_octet_82 : decode cX7_octet 82 = .ok (.istore 4, 2) := by decide +kernel
theorem dX7_octet_84 : decode cX7_octet 84 = .ok (.iload_n 2, 1) := by decide +kernel
theorem dX7_octet_85 : decode cX7_octet 85 = .ok (.iconst 2, 1) := by decide +kernel
theorem dX7_octet_86 : decode cX7_octet 86 = .ok (.irem, 1) := by decide +kernel
theorem dX7_octet_87 : decode cX7_octet 87 = .ok (.ifCond .ne 12, 3) := by decide +kernel
theorem dX7_octet_90 : decode cX7_octet 90 = .ok (.iload 4, 2) := by decide +kernel
theorem dX7_octet_92 : decode cX7_octet 92 = .ok (.sipush 256, 3) := by decide +kernel
theorem dX7_octet_95 : decode cX7_octet 95 = .ok (.idiv, 1) := by decide +kernel
theorem dX7_octet_96 : decode cX7_octet 96 = .ok (.goto 9, 3) := by decide +kernel
theorem dX7_octet_99 : decode cX7_octet 99 = .ok (.iload 4, 2) := by decide +kernel
theorem dX7_octet_101 : decode cX7_octet 101 = .ok (.sipush 256, 3) := by decide +kernel
theorem dX7_octet_104 : decode cX7_octet 104 = .ok (.irem, 1) := by decide +kernel
theorem dX7_octet_105 : decode cX7_octet 105 = .ok (.ireturn, 1) := by decide +kernel
theorem dX7_octet_106 : decode cX7_octet 106 = .ok (.bipush 8, 2) := by decide +kernel
theorem dX7_octet_108 : decode cX7_octet 108 = .ok (.iload_n 2, 1) := by decide +kernel
theorem dX7_octet_109 : decode cX7_octet 109 = .ok (.imul, 1) := by decide +kernel
theorem dX7_octet_110 : decode cX7_octet 110 = .ok (.istore 4, 2) := by decide +kernel
theorem dX7_octet_112 : decode cX7_octet 112 = .ok (.aload_n 0, 1) := by decide +kernel
theorem dX7_octet_113 : decode cX7_octet 113 = .ok (.iload_n 1, 1) := by decide +kernel
theorem dX7_octet_114 : decode cX7_octet 114 = .ok (.iload 4, 2) := by decide +kernel
theorem dX7_octet_116 : decode cX7_octet 116 = .ok (.bipush 7, 2) := by decide +kernel
theorem dX7_octet_118 : decode cX7_octet 118 = .ok (.idiv, 1) := by decide +kernel
theorem dX7_octet_119 : decode cX7_octet 119 = .ok (.invokevirtual 120, 3) := by decide +kernel
theorem dX7_octet_122 : decode cX7_octet 122 = .ok (.aload_n 0, 1) := by decide +kernel
theorem dX7_octet_123 : decode cX7_octet 123 = .ok (.iload_n 1, 1) := by decide +kernel
theorem dX7_octet_124 : decode cX7_octet 124 = .ok (.iload 4, 2) := by decide +kernel
theorem dX7_octet_126 : decode cX7_octet 126 = .ok (.bipush 7, 2) := by decide +kernel
theorem dX7_octet_128 : decode cX7_octet 128 = .ok (.idiv, 1) := by decide +kernel
theorem dX7_octet_129 : decode cX7_octet 129 = .ok (.iconst 1, 1) := by decide +kernel
theorem dX7_octet_130 : decode cX7_octet 130 = .ok (.iadd, 1) := by decide +kernel
theorem dX7_octet_131 : decode cX7_octet 131 = .ok (.invokevirtual 120, 3) := by decide +kernel
theorem dX7_octet_134 : decode cX7_octet 134 = .ok (.bipush 7, 2) := by decide +kernel
theorem dX7_octet_136 : decode cX7_octet 136 = .ok (.ishl, 1) := by decide +kernel
theorem dX7_octet_137 : decode cX7_octet 137 = .ok (.ior, 1) := by decide +kernel
theorem dX7_octet_138 : decode cX7_octet 138 = .ok (.istore 5, 2) := by decide +kernel
theorem dX7_octet_140 : decode cX7_octet 140 = .ok (.iload 5, 2) := by decide +kernel
theorem dX7_octet_142 : decode cX7_octet 142 = .ok (.iload 4, 2) := by decide +kernel
theorem dX7_octet_144 : decode cX7_octet 144 = .ok (.bipush 7, 2) := by decide +kernel
theorem dX7_octet_146 : decode cX7_octet 146 = .ok (.irem, 1) := by decide +kernel
theorem dX7_octet_147 : decode cX7_octet 147 = .ok (.ishr, 1) := by decide +kernel
theorem dX7_octet_148 : decode cX7_octet 148 = .ok (.sipush 255, 3) := by decide +kernel
theorem dX7_octet_151 : decode cX7_octet 151 = .ok (.iand, 1) := by decide +kernel
theorem dX7_octet_152 : decode cX7_octet 152 = .ok (.ireturn, 1) := by decide +kernel
theorem dX7_partsIn_0 : decode cX7_partsIn 0 = .ok (.aload_n 0, 1) := by decide +kernel
theorem dX7_partsIn_1 : decode cX7_partsIn 1 = .ok (.getfield 13, 3) := by decide +kernel
theorem dX7_partsIn_4 : decode cX7_partsIn 4 = .ok (.sipush 400, 3) := by decide +kernel
theorem dX7_partsIn_7 : decode cX7_partsIn 7 = .ok (.iload_n 1, 1) := by decide +kernel
theorem dX7_partsIn_8 : decode cX7_partsIn 8 = .ok (.imul, 1) := by decide +kernel
theorem dX7_partsIn_9 : decode cX7_partsIn 9 = .ok (.aload_n 0, 1) := by decide +kernel
theorem dX7_partsIn_10 : decode cX7_partsIn 10 = .ok (.getfield 16, 3) := by decide +kernel
theorem dX7_partsIn_13 : decode cX7_partsIn 13 = .ok (.iload_n 1, 1) := by decide +kernel
theorem dX7_partsIn_14 : decode cX7_partsIn 14 = .ok (.iaload, 1) := by decide +kernel
theorem dX7_partsIn_15 : decode cX7_partsIn 15 = .ok (.invokestatic 105, 3) := by decide +kernel
theorem dX7_partsIn_18 : decode cX7_partsIn 18 = .ok (.ireturn, 1) := by decide +kernel
theorem dX7_puts_0 : decode cX7_puts 0 = .ok (.aload_n 0, 1) := by decide +kernel
theorem dX7_puts_1 : decode cX7_puts 1 = .ok (.getfield 47, 3) := by decide +kernel
theorem dX7_puts_4 : decode cX7_puts 4 = .ok (.sipush 200, 3) := by decide +kernel
theorem dX7_puts_7 : decode cX7_puts 7 = .ok (.iload_n 1, 1) := by decide +kernel
theorem dX7_puts_8 : decode cX7_puts 8 = .ok (.imul, 1) := by decide +kernel
theorem dX7_puts_9 : decode cX7_puts 9 = .ok (.aload_n 0, 1) := by decide +kernel
theorem dX7_puts_10 : decode cX7_puts 10 = .ok (.getfield 44, 3) := by decide +kernel
theorem dX7_puts_13 : decode cX7_puts 13 = .ok (.iload_n 1, 1) := by decide +kernel
theorem dX7_puts_14 : decode cX7_puts 14 = .ok (.iaload, 1) := by decide +kernel
theorem dX7_puts_15 : decode cX7_puts 15 = .ok (.iadd, 1) := by decide +kernel
theorem dX7_puts_16 : decode cX7_puts 16 = .ok (.iload_n 2, 1) := by decide +kernel
theorem dX7_puts_17 : decode cX7_puts 17 = .ok (.iastore, 1) := by decide +kernel
theorem dX7_puts_18 : decode cX7_puts 18 = .ok (.aload_n 0, 1) := by decide +kernel
theorem dX7_puts_19 : decode cX7_puts 19 = .ok (.getfield 44, 3) := by decide +kernel
theorem dX7_puts_22 : decode cX7_puts 22 = .ok (.iload_n 1, 1) := by decide +kernel
theorem dX7_puts_23 : decode cX7_puts 23 = .ok (.dup2, 1) := by decide +kernel
theorem dX7_puts_24 : decode cX7_puts 24 = .ok (.iaload, 1) := by decide +kernel
theorem dX7_puts_25 : decode cX7_puts 25 = .ok (.iconst 1, 1) := by decide +kernel
theorem dX7_puts_26 : decode cX7_puts 26 = .ok (.iadd, 1) := by decide +kernel
theorem dX7_puts_27 : decode cX7_puts 27 = .ok (.iastore, 1) := by decide +kernel
theorem dX7_puts_28 : decode cX7_puts 28 = .ok (.aload_n 0, 1) := by decide +kernel
theorem dX7_puts_29 : decode cX7_puts 29 = .ok (.getfield 31, 3) := by decide +kernel
theorem dX7_puts_32 : decode cX7_puts 32 = .ok (.iload_n 2, 1) := by decide +kernel
theorem dX7_puts_33 : decode cX7_puts 33 = .ok (.iload_n 3, 1) := by decide +kernel
theorem dX7_puts_34 : decode cX7_puts 34 = .ok (.iastore, 1) := by decide +kernel
theorem dX7_puts_35 : decode cX7_puts 35 = .ok (.aload_n 0, 1) := by decide +kernel
theorem dX7_puts_36 : decode cX7_puts 36 = .ok (.getfield 37, 3) := by decide +kernel
theorem dX7_puts_39 : decode cX7_puts 39 = .ok (.iload_n 2, 1) := by decide +kernel
theorem dX7_puts_40 : decode cX7_puts 40 = .ok (.iload 4, 2) := by decide +kernel
theorem dX7_puts_42 : decode cX7_puts 42 = .ok (.bastore, 1) := by decide +kernel
theorem dX7_puts_43 : decode cX7_puts 43 = .ok (.return_, 1) := by decide +kernel
theorem dX7_submit_0 : decode cX7_submit 0 = .ok (.iload_n 1, 1) := by decide +kernel
theorem dX7_submit_1 : decode cX7_submit 1 = .ok (.iconst 0, 1) := by decide +kernel
theorem dX7_submit_2 : decode cX7_submit 2 = .ok (.bipush 8, 2) := by decide +kernel
theorem dX7_submit_4 : decode cX7_submit 4 = .ok (.invokestatic 94, 3) := by decide +kernel
theorem dX7_submit_7 : decode cX7_submit 7 = .ok (.ifCond .eq 18, 3) := by decide +kernel
theorem dX7_submit_10 : decode cX7_submit 10 = .ok (.iload_n 2, 1) := by decide +kernel
theorem dX7_submit_11 : decode cX7_submit 11 = .ok (.iconst 1, 1) := by decide +kernel
theorem dX7_submit_12 : decode cX7_submit 12 = .ok (.sipush 1000, 3) := by decide +kernel
theorem dX7_submit_15 : decode cX7_submit 15 = .ok (.invokestatic 94, 3) := by decide +kernel
theorem dX7_submit_18 : decode cX7_submit 18 = .ok (.ifCond .eq 7, 3) := by decide +kernel
theorem dX7_submit_21 : decode cX7_submit 21 = .ok (.iconst 1, 1) := by decide +kernel
theorem dX7_submit_22 : decode cX7_submit 22 = .ok (.goto 4, 3) := by decide +kernel
theorem dX7_submit_25 : decode cX7_submit 25 = .ok (.iconst 0, 1) := by decide +kernel
theorem dX7_submit_26 : decode cX7_submit 26 = .ok (.istore_n 3, 1) := by decide +kernel
theorem dX7_submit_27 : decode cX7_submit 27 = .ok (.aload_n 0, 1) := by decide +kernel
theorem dX7_submit_28 : decode cX7_submit 28 = .ok (.iload_n 3, 1) := by decide +kernel
theorem dX7_submit_29 : decode cX7_submit 29 = .ok (.ifCond .ne 7, 3) := by decide +kernel
theorem dX7_submit_32 : decode cX7_submit 32 = .ok (.iconst 1, 1) := by decide +kernel
theorem dX7_submit_33 : decode cX7_submit 33 = .ok (.goto 24, 3) := by decide +kernel
theorem dX7_submit_36 : decode cX7_submit 36 = .ok (.aload_n 0, 1) := by decide +kernel
theorem dX7_submit_37 : decode cX7_submit 37 = .ok (.getfield 98, 3) := by decide +kernel
theorem dX7_submit_40 : decode cX7_submit 40 = .ok (.ifCond .eq 12, 3) := by decide +kernel
theorem dX7_submit_43 : decode cX7_submit 43 = .ok (.aload_n 0, 1) := by decide +kernel
theorem dX7_submit_44 : decode cX7_submit 44 = .ok (.getfield 124, 3) := by decide +kernel
theorem dX7_submit_47 : decode cX7_submit 47 = .ok (.bipush 20, 2) := by decide +kernel
theorem dX7_submit_49 : decode cX7_submit 49 = .ok (.if_icmp .ne 7, 3) := by decide +kernel
theorem dX7_submit_52 : decode cX7_submit 52 = .ok (.iconst 2, 1) := by decide +kernel
theorem dX7_submit_53 : decode cX7_submit 53 = .ok (.goto 4, 3) := by decide +kernel
theorem dX7_submit_56 : decode cX7_submit 56 = .ok (.iconst 0, 1) := by decide +kernel
theorem dX7_submit_57 : decode cX7_submit 57 = .ok (.invokevirtual 101, 3) := by decide +kernel
theorem dX7_submit_60 : decode cX7_submit 60 = .ok (.ifCond .eq 5, 3) := by decide +kernel
theorem dX7_submit_63 : decode cX7_submit 63 = .ok (.iconst 0, 1) := by decide +kernel
theorem dX7_submit_64 : decode cX7_submit 64 = .ok (.ireturn, 1) := by decide +kernel
theorem dX7_submit_65 : decode cX7_submit 65 = .ok (.aload_n 0, 1) := by decide +kernel
theorem dX7_submit_66 : decode cX7_submit 66 = .ok (.getfield 124, 3) := by decide +kernel
theorem dX7_submit_69 : decode cX7_submit 69 = .ok (.istore 4, 2) := by decide +kernel
theorem dX7_submit_71 : decode cX7_submit 71 = .ok (.iconst 0, 1) := by decide +kernel
theorem dX7_submit_72 : decode cX7_submit 72 = .ok (.istore 5, 2) := by decide +kernel
theorem dX7_submit_74 : decode cX7_submit 74 = .ok (.iload 5, 2) := by decide +kernel
theorem dX7_submit_76 : decode cX7_submit 76 = .ok (.aload_n 0, 1) := by decide +kernel
theorem dX7_submit_77 : decode cX7_submit 77 = .ok (.getfield 98, 3) := by decide +kernel
theorem dX7_submit_80 : decode cX7_submit 80 = .ok (.if_icmp .ge 30, 3) := by decide +kernel
theorem dX7_submit_83 : decode cX7_submit 83 = .ok (.aload_n 0, 1) := by decide +kernel
theorem dX7_submit_84 : decode cX7_submit 84 = .ok (.getfield 13, 3) := by decide +kernel
theorem dX7_submit_87 : decode cX7_submit 87 = .ok (.sipush 400, 3) := by decide +kernel
theorem dX7_submit_90 : decode cX7_submit 90 = .ok (.iload 4, 2) := by decide +kernel
theorem dX7_submit_92 : decode cX7_submit 92 = .ok (.imul, 1) := by decide +kernel
theorem dX7_submit_93 : decode cX7_submit 93 = .ok (.iload 5, 2) := by decide +kernel
theorem dX7_submit_95 : decode cX7_submit 95 = .ok (.iadd, 1) := by decide +kernel
theorem dX7_submit_96 : decode cX7_submit 96 = .ok (.aload_n 0, 1) := by decide +kernel
theorem dX7_submit_97 : decode cX7_submit 97 = .ok (.getfield 7, 3) := by decide +kernel
theorem dX7_submit_100 : decode cX7_submit 100 = .ok (.iload 5, 2) := by decide +kernel
theorem dX7_submit_102 : decode cX7_submit 102 = .ok (.iaload, 1) := by decide +kernel
theorem dX7_submit_103 : decode cX7_submit 103 = .ok (.iastore, 1) := by decide +kernel
theorem dX7_submit_104 : decode cX7_submit 104 = .ok (.iinc 5 1, 3) := by decide +kernel
theorem dX7_submit_107 : decode cX7_submit 107 = .ok (.goto (-33), 3) := by decide +kernel
theorem dX7_submit_110 : decode cX7_submit 110 = .ok (.aload_n 0, 1) := by decide +kernel
theorem dX7_submit_111 : decode cX7_submit 111 = .ok (.getfield 16, 3) := by decide +kernel
theorem dX7_submit_114 : decode cX7_submit 114 = .ok (.iload 4, 2) := by decide +kernel
theorem dX7_submit_116 : decode cX7_submit 116 = .ok (.aload_n 0, 1) := by decide +kernel
theorem dX7_submit_117 : decode cX7_submit 117 = .ok (.getfield 98, 3) := by decide +kernel
theorem dX7_submit_120 : decode cX7_submit 120 = .ok (.iastore, 1) := by decide +kernel
theorem dX7_submit_121 : decode cX7_submit 121 = .ok (.aload_n 0, 1) := by decide +kernel
theorem dX7_submit_122 : decode cX7_submit 122 = .ok (.getfield 19, 3) := by decide +kernel
theorem dX7_submit_125 : decode cX7_submit 125 = .ok (.iload 4, 2) := by decide +kernel
theorem dX7_submit_127 : decode cX7_submit 127 = .ok (.iload_n 1, 1) := by decide +kernel
theorem dX7_submit_128 : decode cX7_submit 128 = .ok (.iastore, 1) := by decide +kernel
theorem dX7_submit_129 : decode cX7_submit 129 = .ok (.aload_n 0, 1) := by decide +kernel
theorem dX7_submit_130 : decode cX7_submit 130 = .ok (.getfield 22, 3) := by decide +kernel
theorem dX7_submit_133 : decode cX7_submit 133 = .ok (.iload 4, 2) := by decide +kernel
theorem dX7_submit_135 : decode cX7_submit 135 = .ok (.aload_n 0, 1) := by decide +kernel
theorem dX7_submit_136 : decode cX7_submit 136 = .ok (.getfield 127, 3) := by decide +kernel
theorem dX7_submit_139 : decode cX7_submit 139 = .ok (.iload_n 2, 1) := by decide +kernel
theorem dX7_submit_140 : decode cX7_submit 140 = .ok (.iadd, 1) := by decide +kernel
theorem dX7_submit_141 : decode cX7_submit 141 = .ok (.iastore, 1) := by decide +kernel
theorem dX7_submit_142 : decode cX7_submit 142 = .ok (.aload_n 0, 1) := by decide +kernel
theorem dX7_submit_143 : decode cX7_submit 143 = .ok (.dup, 1) := by decide +kernel
theorem dX7_submit_144 : decode cX7_submit 144 = .ok (.getfield 124, 3) := by decide +kernel
theorem dX7_submit_147 : decode cX7_submit 147 = .ok (.iconst 1, 1) := by decide +kernel
theorem dX7_submit_148 : decode cX7_submit 148 = .ok (.iadd, 1) := by decide +kernel
theorem dX7_submit_149 : decode cX7_submit 149 = .ok (.putfield 124, 3) := by decide +kernel
theorem dX7_submit_152 : decode cX7_submit 152 = .ok (.aload_n 0, 1) := by decide +kernel
theorem dX7_submit_153 : decode cX7_submit 153 = .ok (.iconst 0, 1) := by decide +kernel
theorem dX7_submit_154 : decode cX7_submit 154 = .ok (.putfield 98, 3) := by decide +kernel
theorem dX7_submit_157 : decode cX7_submit 157 = .ok (.iconst 0, 1) := by decide +kernel
theorem dX7_submit_158 : decode cX7_submit 158 = .ok (.istore 5, 2) := by decide +kernel
theorem dX7_submit_160 : decode cX7_submit 160 = .ok (.iload 5, 2) := by decide +kernel
theorem dX7_submit_162 : decode cX7_submit 162 = .ok (.aload_n 0, 1) := by decide +kernel
theorem dX7_submit_163 : decode cX7_submit 163 = .ok (.iload 4, 2) := by decide +kernel
theorem dX7_submit_165 : decode cX7_submit 165 = .ok (.invokevirtual 130, 3) := by decide +kernel
theorem dX7_submit_168 : decode cX7_submit 168 = .ok (.if_icmp .ge 29, 3) := by decide +kernel
theorem dX7_submit_171 : decode cX7_submit 171 = .ok (.aload_n 0, 1) := by decide +kernel
theorem dX7_submit_172 : decode cX7_submit 172 = .ok (.iload_n 1, 1) := by decide +kernel
theorem dX7_submit_173 : decode cX7_submit 173 = .ok (.iconst 3, 1) := by decide +kernel
theorem dX7_submit_174 : decode cX7_submit 174 = .ok (.irem, 1) := by decide +kernel
theorem dX7_submit_175 : decode cX7_submit 175 = .ok (.bipush 10, 2) := by decide +kernel
theorem dX7_submit_177 : decode cX7_submit 177 = .ok (.iload 4, 2) := by decide +kernel
theorem dX7_submit_179 : decode cX7_submit 179 = .ok (.imul, 1) := by decide +kernel
theorem dX7_submit_180 : decode cX7_submit 180 = .ok (.iload 5, 2) := by decide +kernel
theorem dX7_submit_182 : decode cX7_submit 182 = .ok (.iadd, 1) := by decide +kernel
theorem dX7_submit_183 : decode cX7_submit 183 = .ok (.aload_n 0, 1) := by decide +kernel
theorem dX7_submit_184 : decode cX7_submit 184 = .ok (.getfield 127, 3) := by decide +kernel
theorem dX7_submit_187 : decode cX7_submit 187 = .ok (.iconst 0, 1) := by decide +kernel
theorem dX7_submit_188 : decode cX7_submit 188 = .ok (.invokevirtual 133, 3) := by decide +kernel
theorem dX7_submit_191 : decode cX7_submit 191 = .ok (.iinc 5 1, 3) := by decide +kernel
theorem dX7_submit_194 : decode cX7_submit 194 = .ok (.goto (-34), 3) := by decide +kernel
theorem dX7_submit_197 : decode cX7_submit 197 = .ok (.iload 4, 2) := by decide +kernel
theorem dX7_submit_199 : decode cX7_submit 199 = .ok (.ireturn, 1) := by decide +kernel
theorem dX7_isMessage_0 : decode cX7_isMessage 0 = .ok (.iload_n 1, 1) := by decide +kernel
theorem dX7_isMessage_1 : decode cX7_isMessage 1 = .ok (.iconst 0, 1) := by decide +kernel
theorem dX7_isMessage_2 : decode cX7_isMessage 2 = .ok (.aload_n 0, 1) := by decide +kernel
theorem dX7_isMessage_3 : decode cX7_isMessage 3 = .ok (.getfield 124, 3) := by decide +kernel
theorem dX7_isMessage_6 : decode cX7_isMessage 6 = .ok (.iconst 1, 1) := by decide +kernel
theorem dX7_isMessage_7 : decode cX7_isMessage 7 = .ok (.isub, 1) := by decide +kernel
theorem dX7_isMessage_8 : decode cX7_isMessage 8 = .ok (.invokestatic 94, 3) := by decide +kernel
theorem dX7_isMessage_11 : decode cX7_isMessage 11 = .ok (.ireturn, 1) := by decide +kernel
theorem dX7_state_0 : decode cX7_state 0 = .ok (.aload_n 0, 1) := by decide +kernel
theorem dX7_state_1 : decode cX7_state 1 = .ok (.aload_n 0, 1) := by decide +kernel
theorem dX7_state_2 : decode cX7_state 2 = .ok (.iload_n 1, 1) := by decide +kernel
theorem dX7_state_3 : decode cX7_state 3 = .ok (.invokevirtual 137, 3) := by decide +kernel
theorem dX7_state_6 : decode cX7_state 6 = .ok (.ifCond .eq 7, 3) := by decide +kernel
theorem dX7_state_9 : decode cX7_state 9 = .ok (.iconst 0, 1) := by decide +kernel
theorem dX7_state_10 : decode cX7_state 10 = .ok (.goto 4, 3) := by decide +kernel
theorem dX7_state_13 : decode cX7_state 13 = .ok (.iconst 1, 1) := by decide +kernel
theorem dX7_state_14 : decode cX7_state 14 = .ok (.invokevirtual 101, 3) := by decide +kernel
theorem dX7_state_17 : decode cX7_state 17 = .ok (.ifCond .eq 7, 3) := by decide +kernel
theorem dX7_state_20 : decode cX7_state 20 = .ok (.iconst 0, 1) := by decide +kernel
theorem dX7_state_21 : decode cX7_state 21 = .ok (.goto 9, 3) := by decide +kernel
theorem dX7_state_24 : decode cX7_state 24 = .ok (.aload_n 0, 1) := by decide +kernel
theorem dX7_state_25 : decode cX7_state 25 = .ok (.getfield 25, 3) := by decide +kernel
theorem dX7_state_28 : decode cX7_state 28 = .ok (.iload_n 1, 1) := by decide +kernel
theorem dX7_state_29 : decode cX7_state 29 = .ok (.iaload, 1) := by decide +kernel
theorem dX7_state_30 : decode cX7_state 30 = .ok (.ireturn, 1) := by decide +kernel
theorem dX7_lacks_0 : decode cX7_lacks 0 = .ok (.iconst 0, 1) := by decide +kernel
theorem dX7_lacks_1 : decode cX7_lacks 1 = .ok (.istore_n 2, 1) := by decide +kernel
theorem dX7_lacks_2 : decode cX7_lacks 2 = .ok (.iconst 0, 1) := by decide +kernel
theorem dX7_lacks_3 : decode cX7_lacks 3 = .ok (.istore_n 3, 1) := by decide +kernel
theorem dX7_lacks_4 : decode cX7_lacks 4 = .ok (.iload_n 3, 1) := by decide +kernel
theorem dX7_lacks_5 : decode cX7_lacks 5 = .ok (.aload_n 0, 1) := by decide +kernel
theorem dX7_lacks_6 : decode cX7_lacks 6 = .ok (.iload_n 1, 1) := by decide +kernel
theorem dX7_lacks_7 : decode cX7_lacks 7 = .ok (.invokevirtual 130, 3) := by decide +kernel
theorem dX7_lacks_10 : decode cX7_lacks 10 = .ok (.if_icmp .ge 33, 3) := by decide +kernel
theorem dX7_lacks_13 : decode cX7_lacks 13 = .ok (.iload_n 2, 1) := by decide +kernel
theorem dX7_lacks_14 : decode cX7_lacks 14 = .ok (.aload_n 0, 1) := by decide +kernel
theorem dX7_lacks_15 : decode cX7_lacks 15 = .ok (.getfield 41, 3) := by decide +kernel
theorem dX7_lacks_18 : decode cX7_lacks 18 = .ok (.bipush 10, 2) := by decide +kernel
theorem dX7_lacks_20 : decode cX7_lacks 20 = .ok (.iload_n 1, 1) := by decide +kernel
theorem dX7_lacks_21 : decode cX7_lacks 21 = .ok (.imul, 1) := by decide +kernel
theorem dX7_lacks_22 : decode cX7_lacks 22 = .ok (.iload_n 3, 1) := by decide +kernel
theorem dX7_lacks_23 : decode cX7_lacks 23 = .ok (.iadd, 1) := by decide +kernel
theorem dX7_lacks_24 : decode cX7_lacks 24 = .ok (.baload, 1) := by decide +kernel
theorem dX7_lacks_25 : decode cX7_lacks 25 = .ok (.ifCond .eq 7, 3) := by decide +kernel
theorem dX7_lacks_28 : decode cX7_lacks 28 = .ok (.iconst 0, 1) := by decide +kernel
theorem dX7_lacks_29 : decode cX7_lacks 29 = .ok (.goto 6, 3) := by decide +kernel
theorem dX7_lacks_32 : decode cX7_lacks 32 = .ok (.iconst 1, 1) := by decide +kernel
theorem dX7_lacks_33 : decode cX7_lacks 33 = .ok (.iload_n 3, 1) := by decide +kernel
theorem dX7_lacks_34 : decode cX7_lacks 34 = .ok (.ishl, 1) := by decide +kernel
theorem dX7_lacks_35 : decode cX7_lacks 35 = .ok (.ior, 1) := by decide +kernel
theorem dX7_lacks_36 : decode cX7_lacks 36 = .ok (.istore_n 2, 1) := by decide +kernel
theorem dX7_lacks_37 : decode cX7_lacks 37 = .ok (.iinc 3 1, 3) := by decide +kernel
theorem dX7_lacks_40 : decode cX7_lacks 40 = .ok (.goto (-36), 3) := by decide +kernel
theorem dX7_lacks_43 : decode cX7_lacks 43 = .ok (.iload_n 2, 1) := by decide +kernel
theorem dX7_lacks_44 : decode cX7_lacks 44 = .ok (.ireturn, 1) := by decide +kernel
theorem dX7_missing_0 : decode cX7_missing 0 = .ok (.aload_n 0, 1) := by decide +kernel
theorem dX7_missing_1 : decode cX7_missing 1 = .ok (.aload_n 0, 1) := by decide +kernel
theorem dX7_missing_2 : decode cX7_missing 2 = .ok (.iload_n 1, 1) := by decide +kernel
theorem dX7_missing_3 : decode cX7_missing 3 = .ok (.invokevirtual 137, 3) := by decide +kernel
theorem dX7_missing_6 : decode cX7_missing 6 = .ok (.ifCond .eq 7, 3) := by decide +kernel
theorem dX7_missing_9 : decode cX7_missing 9 = .ok (.iconst 0, 1) := by decide +kernel
theorem dX7_missing_10 : decode cX7_missing 10 = .ok (.goto 4, 3) := by decide +kernel
theorem dX7_missing_13 : decode cX7_missing 13 = .ok (.iconst 1, 1) := by decide +kernel
theorem dX7_missing_14 : decode cX7_missing 14 = .ok (.invokevirtual 101, 3) := by decide +kernel
theorem dX7_missing_17 : decode cX7_missing 17 = .ok (.ifCond .eq 7, 3) := by decide +kernel
theorem dX7_missing_20 : decode cX7_missing 20 = .ok (.iconst 0, 1) := by decide +kernel
theorem dX7_missing_21 : decode cX7_missing 21 = .ok (.goto 8, 3) := by decide +kernel
theorem dX7_missing_24 : decode cX7_missing 24 = .ok (.aload_n 0, 1) := by decide +kernel
theorem dX7_missing_25 : decode cX7_missing 25 = .ok (.iload_n 1, 1) := by decide +kernel
theorem dX7_missing_26 : decode cX7_missing 26 = .ok (.invokevirtual 140, 3) := by decide +kernel
theorem dX7_missing_29 : decode cX7_missing 29 = .ok (.ireturn, 1) := by decide +kernel
theorem dX7_joined_0 : decode cX7_joined 0 = .ok (.aload_n 0, 1) := by decide +kernel
theorem dX7_joined_1 : decode cX7_joined 1 = .ok (.iload_n 1, 1) := by decide +kernel
theorem dX7_joined_2 : decode cX7_joined 2 = .ok (.invokevirtual 137, 3) := by decide +kernel
theorem dX7_joined_5 : decode cX7_joined 5 = .ok (.ifCond .eq 21, 3) := by decide +kernel
theorem dX7_joined_8 : decode cX7_joined 8 = .ok (.iload_n 2, 1) := by decide +kernel
theorem dX7_joined_9 : decode cX7_joined 9 = .ok (.ifCond .lt 17, 3) := by decide +kernel
theorem dX7_joined_12 : decode cX7_joined 12 = .ok (.iload_n 2, 1) := by decide +kernel
theorem dX7_joined_13 : decode cX7_joined 13 = .ok (.aload_n 0, 1) := by decide +kernel
theorem dX7_joined_14 : decode cX7_joined 14 = .ok (.getfield 16, 3) := by decide +kernel
theorem dX7_joined_17 : decode cX7_joined 17 = .ok (.iload_n 1, 1) := by decide +kernel
theorem dX7_joined_18 : decode cX7_joined 18 = .ok (.iaload, 1) := by decide +kernel
theorem dX7_joined_19 : decode cX7_joined 19 = .ok (.if_icmp .ge 7, 3) := by decide +kernel
theorem dX7_joined_22 : decode cX7_joined 22 = .ok (.iconst 1, 1) := by decide +kernel
theorem dX7_joined_23 : decode cX7_joined 23 = .ok (.goto 4, 3) := by decide +kernel
theorem dX7_joined_26 : decode cX7_joined 26 = .ok (.iconst 0, 1) := by decide +kernel
theorem dX7_joined_27 : decode cX7_joined 27 = .ok (.istore_n 3, 1) := by decide +kernel
theorem dX7_joined_28 : decode cX7_joined 28 = .ok (.aload_n 0, 1) := by decide +kernel
theorem dX7_joined_29 : decode cX7_joined 29 = .ok (.iload_n 3, 1) := by decide +kernel
theorem dX7_joined_30 : decode cX7_joined 30 = .ok (.ifCond .eq 7, 3) := by decide +kernel
theorem dX7_joined_33 : decode cX7_joined 33 = .ok (.iconst 0, 1) := by decide +kernel
theorem dX7_joined_34 : decode cX7_joined 34 = .ok (.goto 4, 3) := by decide +kernel
theorem dX7_joined_37 : decode cX7_joined 37 = .ok (.iconst 1, 1) := by decide +kernel
theorem dX7_joined_38 : decode cX7_joined 38 = .ok (.invokevirtual 101, 3) := by decide +kernel
theorem dX7_joined_41 : decode cX7_joined 41 = .ok (.ifCond .eq 5, 3) := by decide +kernel
theorem dX7_joined_44 : decode cX7_joined 44 = .ok (.iconst 0, 1) := by decide +kernel
theorem dX7_joined_45 : decode cX7_joined 45 = .ok (.ireturn, 1) := by decide +kernel
theorem dX7_joined_46 : decode cX7_joined 46 = .ok (.iconst 0, 1) := by decide +kernel
theorem dX7_joined_47 : decode cX7_joined 47 = .ok (.istore 4, 2) := by decide +kernel
theorem dX7_joined_49 : decode cX7_joined 49 = .ok (.iload_n 2, 1) := by decide +kernel
theorem dX7_joined_50 : decode cX7_joined 50 = .ok (.istore 5, 2) := by decide +kernel
theorem dX7_joined_52 : decode cX7_joined 52 = .ok (.iload 5, 2) := by decide +kernel
theorem dX7_joined_54 : decode cX7_joined 54 = .ok (.aload_n 0, 1) := by decide +kernel
theorem dX7_joined_55 : decode cX7_joined 55 = .ok (.getfield 13, 3) := by decide +kernel
theorem dX7_joined_58 : decode cX7_joined 58 = .ok (.sipush 400, 3) := by decide +kernel
theorem dX7_joined_61 : decode cX7_joined 61 = .ok (.iload_n 1, 1) := by decide +kernel
theorem dX7_joined_62 : decode cX7_joined 62 = .ok (.imul, 1) := by decide +kernel
theorem dX7_joined_63 : decode cX7_joined 63 = .ok (.aload_n 0, 1) := by decide +kernel
theorem dX7_joined_64 : decode cX7_joined 64 = .ok (.getfield 16, 3) := by decide +kernel
theorem dX7_joined_67 : decode cX7_joined 67 = .ok (.iload_n 1, 1) := by decide +kernel
theorem dX7_joined_68 : decode cX7_joined 68 = .ok (.iaload, 1) := by decide +kernel
theorem dX7_joined_69 : decode cX7_joined 69 = .ok (.iload 4, 2) := by decide +kernel
theorem dX7_joined_71 : decode cX7_joined 71 = .ok (.invokestatic 90, 3) := by decide +kernel
theorem dX7_joined_74 : decode cX7_joined 74 = .ok (.if_icmp .lt 34, 3) := by decide +kernel
theorem dX7_joined_77 : decode cX7_joined 77 = .ok (.iload 5, 2) := by decide +kernel
theorem dX7_joined_79 : decode cX7_joined 79 = .ok (.aload_n 0, 1) := by decide +kernel
theorem dX7_joined_80 : decode cX7_joined 80 = .ok (.getfield 13, 3) := by decide +kernel
theorem dX7_joined_83 : decode cX7_joined 83 = .ok (.sipush 400, 3) := by decide +kernel
theorem dX7_joined_86 : decode cX7_joined 86 = .ok (.iload_n 1, 1) := by decide +kernel
theorem dX7_joined_87 : decode cX7_joined 87 = .ok (.imul, 1) := by decide +kernel
theorem dX7_joined_88 : decode cX7_joined 88 = .ok (.aload_n 0, 1) := by decide +kernel
theorem dX7_joined_89 : decode cX7_joined 89 = .ok (.getfield 16, 3) := by decide +kernel
theorem dX7_joined_92 : decode cX7_joined 92 = .ok (.iload_n 1, 1) := by decide +kernel
theorem dX7_joined_93 : decode cX7_joined 93 = .ok (.iaload, 1) := by decide +kernel
theorem dX7_joined_94 : decode cX7_joined 94 = .ok (.iload 4, 2) := by decide +kernel
theorem dX7_joined_96 : decode cX7_joined 96 = .ok (.invokestatic 90, 3) := by decide +kernel
theorem dX7_joined_99 : decode cX7_joined 99 = .ok (.isub, 1) := by decide +kernel
theorem dX7_joined_100 : decode cX7_joined 100 = .ok (.istore 5, 2) := by decide +kernel
theorem dX7_joined_102 : decode cX7_joined 102 = .ok (.iinc 4 1, 3) := by decide +kernel
theorem dX7_joined_105 : decode cX7_joined 105 = .ok (.goto (-53), 3) := by decide +kernel
theorem dX7_joined_108 : decode cX7_joined 108 = .ok (.aload_n 0, 1) := by decide +kernel
theorem dX7_joined_109 : decode cX7_joined 109 = .ok (.getfield 41, 3) := by decide +kernel
theorem dX7_joined_112 : decode cX7_joined 112 = .ok (.bipush 10, 2) := by decide +kernel
theorem dX7_joined_114 : decode cX7_joined 114 = .ok (.iload_n 1, 1) := by decide +kernel
theorem dX7_joined_115 : decode cX7_joined 115 = .ok (.imul, 1) := by decide +kernel
theorem dX7_joined_116 : decode cX7_joined 116 = .ok (.iload 4, 2) := by decide +kernel
theorem dX7_joined_118 : decode cX7_joined 118 = .ok (.iadd, 1) := by decide +kernel
theorem dX7_joined_119 : decode cX7_joined 119 = .ok (.baload, 1) := by decide +kernel
theorem dX7_joined_120 : decode cX7_joined 120 = .ok (.ifCond .eq 18, 3) := by decide +kernel
theorem dX7_joined_123 : decode cX7_joined 123 = .ok (.aload_n 0, 1) := by decide +kernel
theorem dX7_joined_124 : decode cX7_joined 124 = .ok (.getfield 13, 3) := by decide +kernel
theorem dX7_joined_127 : decode cX7_joined 127 = .ok (.sipush 400, 3) := by decide +kernel
theorem dX7_joined_130 : decode cX7_joined 130 = .ok (.iload_n 1, 1) := by decide +kernel
theorem dX7_joined_131 : decode cX7_joined 131 = .ok (.imul, 1) := by decide +kernel
theorem dX7_joined_132 : decode cX7_joined 132 = .ok (.iload_n 2, 1) := by decide +kernel
theorem dX7_joined_133 : decode cX7_joined 133 = .ok (.iadd, 1) := by decide +kernel
theorem dX7_joined_134 : decode cX7_joined 134 = .ok (.iaload, 1) := by decide +kernel
theorem dX7_joined_135 : decode cX7_joined 135 = .ok (.goto 4, 3) := by decide +kernel
theorem dX7_joined_138 : decode cX7_joined 138 = .ok (.iconst (-1), 1) := by decide +kernel
theorem dX7_joined_139 : decode cX7_joined 139 = .ok (.ireturn, 1) := by decide +kernel
theorem dX7_receipts_0 : decode cX7_receipts 0 = .ok (.aload_n 0, 1) := by decide +kernel
theorem dX7_receipts_1 : decode cX7_receipts 1 = .ok (.aload_n 0, 1) := by decide +kernel
theorem dX7_receipts_2 : decode cX7_receipts 2 = .ok (.getfield 143, 3) := by decide +kernel
theorem dX7_receipts_5 : decode cX7_receipts 5 = .ok (.invokevirtual 108, 3) := by decide +kernel
theorem dX7_receipts_8 : decode cX7_receipts 8 = .ok (.ireturn, 1) := by decide +kernel
theorem dX7_receipt_0 : decode cX7_receipt 0 = .ok (.aload_n 0, 1) := by decide +kernel
theorem dX7_receipt_1 : decode cX7_receipt 1 = .ok (.iload_n 1, 1) := by decide +kernel
theorem dX7_receipt_2 : decode cX7_receipt 2 = .ok (.iconst 0, 1) := by decide +kernel
theorem dX7_receipt_3 : decode cX7_receipt 3 = .ok (.aload_n 0, 1) := by decide +kernel
theorem dX7_receipt_4 : decode cX7_receipt 4 = .ok (.getfield 143, 3) := by decide +kernel
theorem dX7_receipt_7 : decode cX7_receipt 7 = .ok (.iconst 1, 1) := by decide +kernel
theorem dX7_receipt_8 : decode cX7_receipt 8 = .ok (.isub, 1) := by decide +kernel
theorem dX7_receipt_9 : decode cX7_receipt 9 = .ok (.invokestatic 94, 3) := by decide +kernel
theorem dX7_receipt_12 : decode cX7_receipt 12 = .ok (.ifCond .eq 7, 3) := by decide +kernel
theorem dX7_receipt_15 : decode cX7_receipt 15 = .ok (.iconst 0, 1) := by decide +kernel
theorem dX7_receipt_16 : decode cX7_receipt 16 = .ok (.goto 4, 3) := by decide +kernel
theorem dX7_receipt_19 : decode cX7_receipt 19 = .ok (.iconst 1, 1) := by decide +kernel
theorem dX7_receipt_20 : decode cX7_receipt 20 = .ok (.invokevirtual 101, 3) := by decide +kernel
theorem dX7_receipt_23 : decode cX7_receipt 23 = .ok (.ifCond .eq 7, 3) := by decide +kernel
theorem dX7_receipt_26 : decode cX7_receipt 26 = .ok (.iconst 0, 1) := by decide +kernel
theorem dX7_receipt_27 : decode cX7_receipt 27 = .ok (.goto 9, 3) := by decide +kernel
theorem dX7_receipt_30 : decode cX7_receipt 30 = .ok (.aload_n 0, 1) := by decide +kernel
theorem dX7_receipt_31 : decode cX7_receipt 31 = .ok (.getfield 28, 3) := by decide +kernel
theorem dX7_receipt_34 : decode cX7_receipt 34 = .ok (.iload_n 1, 1) := by decide +kernel
theorem dX7_receipt_35 : decode cX7_receipt 35 = .ok (.iaload, 1) := by decide +kernel
theorem dX7_receipt_36 : decode cX7_receipt 36 = .ok (.ireturn, 1) := by decide +kernel
theorem dX7_ends_0 : decode cX7_ends 0 = .ok (.aload_n 0, 1) := by decide +kernel
theorem dX7_ends_1 : decode cX7_ends 1 = .ok (.getfield 25, 3) := by decide +kernel
theorem dX7_ends_4 : decode cX7_ends 4 = .ok (.iload_n 1, 1) := by decide +kernel
theorem dX7_ends_5 : decode cX7_ends 5 = .ok (.iload_n 2, 1) := by decide +kernel
theorem dX7_ends_6 : decode cX7_ends 6 = .ok (.iastore, 1) := by decide +kernel
theorem dX7_ends_7 : decode cX7_ends 7 = .ok (.aload_n 0, 1) := by decide +kernel
theorem dX7_ends_8 : decode cX7_ends 8 = .ok (.getfield 28, 3) := by decide +kernel
theorem dX7_ends_11 : decode cX7_ends 11 = .ok (.aload_n 0, 1) := by decide +kernel
theorem dX7_ends_12 : decode cX7_ends 12 = .ok (.getfield 143, 3) := by decide +kernel
theorem dX7_ends_15 : decode cX7_ends 15 = .ok (.bipush 10, 2) := by decide +kernel
theorem dX7_ends_17 : decode cX7_ends 17 = .ok (.iload_n 1, 1) := by decide +kernel
theorem dX7_ends_18 : decode cX7_ends 18 = .ok (.imul, 1) := by decide +kernel
theorem dX7_ends_19 : decode cX7_ends 19 = .ok (.iload_n 2, 1) := by decide +kernel
theorem dX7_ends_20 : decode cX7_ends 20 = .ok (.iadd, 1) := by decide +kernel
theorem dX7_ends_21 : decode cX7_ends 21 = .ok (.iastore, 1) := by decide +kernel
theorem dX7_ends_22 : decode cX7_ends 22 = .ok (.aload_n 0, 1) := by decide +kernel
theorem dX7_ends_23 : decode cX7_ends 23 = .ok (.dup, 1) := by decide +kernel
theorem dX7_ends_24 : decode cX7_ends 24 = .ok (.getfield 143, 3) := by decide +kernel
theorem dX7_ends_27 : decode cX7_ends 27 = .ok (.iconst 1, 1) := by decide +kernel
theorem dX7_ends_28 : decode cX7_ends 28 = .ok (.iadd, 1) := by decide +kernel
theorem dX7_ends_29 : decode cX7_ends 29 = .ok (.putfield 143, 3) := by decide +kernel
theorem dX7_ends_32 : decode cX7_ends 32 = .ok (.aload_n 0, 1) := by decide +kernel
theorem dX7_ends_33 : decode cX7_ends 33 = .ok (.getfield 19, 3) := by decide +kernel
theorem dX7_ends_36 : decode cX7_ends 36 = .ok (.iload_n 1, 1) := by decide +kernel
theorem dX7_ends_37 : decode cX7_ends 37 = .ok (.iaload, 1) := by decide +kernel
theorem dX7_ends_38 : decode cX7_ends 38 = .ok (.iconst 3, 1) := by decide +kernel
theorem dX7_ends_39 : decode cX7_ends 39 = .ok (.irem, 1) := by decide +kernel
theorem dX7_ends_40 : decode cX7_ends 40 = .ok (.istore_n 3, 1) := by decide +kernel
theorem dX7_ends_41 : decode cX7_ends 41 = .ok (.iconst 0, 1) := by decide +kernel
theorem dX7_ends_42 : decode cX7_ends 42 = .ok (.istore 4, 2) := by decide +kernel
theorem dX7_ends_44 : decode cX7_ends 44 = .ok (.iconst 0, 1) := by decide +kernel
theorem dX7_ends_45 : decode cX7_ends 45 = .ok (.istore 5, 2) := by decide +kernel
theorem dX7_ends_47 : decode cX7_ends 47 = .ok (.iload 5, 2) := by decide +kernel
theorem dX7_ends_49 : decode cX7_ends 49 = .ok (.aload_n 0, 1) := by decide +kernel
theorem dX7_ends_50 : decode cX7_ends 50 = .ok (.getfield 44, 3) := by decide +kernel
theorem dX7_ends_53 : decode cX7_ends 53 = .ok (.iload_n 3, 1) := by decide +kernel
theorem dX7_ends_54 : decode cX7_ends 54 = .ok (.iaload, 1) := by decide +kernel
theorem dX7_ends_55 : decode cX7_ends 55 = .ok (.if_icmp .ge 51, 3) := by decide +kernel
theorem dX7_ends_58 : decode cX7_ends 58 = .ok (.aload_n 0, 1) := by decide +kernel
theorem dX7_ends_59 : decode cX7_ends 59 = .ok (.getfield 47, 3) := by decide +kernel
theorem dX7_ends_62 : decode cX7_ends 62 = .ok (.sipush 200, 3) := by decide +kernel
theorem dX7_ends_65 : decode cX7_ends 65 = .ok (.iload_n 3, 1) := by decide +kernel
theorem dX7_ends_66 : decode cX7_ends 66 = .ok (.imul, 1) := by decide +kernel
theorem dX7_ends_67 : decode cX7_ends 67 = .ok (.iload 5, 2) := by decide +kernel
theorem dX7_ends_69 : decode cX7_ends 69 = .ok (.iadd, 1) := by decide +kernel
theorem dX7_ends_70 : decode cX7_ends 70 = .ok (.iaload, 1) := by decide +kernel
theorem dX7_ends_71 : decode cX7_ends 71 = .ok (.istore 6, 2) := by decide +kernel
theorem dX7_ends_73 : decode cX7_ends 73 = .ok (.iload 6, 2) := by decide +kernel
theorem dX7_ends_75 : decode cX7_ends 75 = .ok (.bipush 10, 2) := by decide +kernel
theorem dX7_ends_77 : decode cX7_ends 77 = .ok (.idiv, 1) := by decide +kernel
theorem dX7_ends_78 : decode cX7_ends 78 = .ok (.iload_n 1, 1) := by decide +kernel
theorem dX7_ends_79 : decode cX7_ends 79 = .ok (.if_icmp .eq 21, 3) := by decide +kernel
theorem dX7_ends_82 : decode cX7_ends 82 = .ok (.aload_n 0, 1) := by decide +kernel
theorem dX7_ends_83 : decode cX7_ends 83 = .ok (.getfield 47, 3) := by decide +kernel
theorem dX7_ends_86 : decode cX7_ends 86 = .ok (.sipush 200, 3) := by decide +kernel
theorem dX7_ends_89 : decode cX7_ends 89 = .ok (.iload_n 3, 1) := by decide +kernel
theorem dX7_ends_90 : decode cX7_ends 90 = .ok (.imul, 1) := by decide +kernel
theorem dX7_ends_91 : decode cX7_ends 91 = .ok (.iload 4, 2) := by decide +kernel
theorem dX7_ends_93 : decode cX7_ends 93 = .ok (.iadd, 1) := by decide +kernel
theorem dX7_ends_94 : decode cX7_ends 94 = .ok (.iload 6, 2) := by decide +kernel
theorem dX7_ends_96 : decode cX7_ends 96 = .ok (.iastore, 1) := by decide +kernel
theorem dX7_ends_97 : decode cX7_ends 97 = .ok (.iinc 4 1, 3) := by decide +kernel
theorem dX7_ends_100 : decode cX7_ends 100 = .ok (.iinc 5 1, 3) := by decide +kernel
theorem dX7_ends_103 : decode cX7_ends 103 = .ok (.goto (-56), 3) := by decide +kernel
theorem dX7_ends_106 : decode cX7_ends 106 = .ok (.aload_n 0, 1) := by decide +kernel
theorem dX7_ends_107 : decode cX7_ends 107 = .ok (.getfield 44, 3) := by decide +kernel
theorem dX7_ends_110 : decode cX7_ends 110 = .ok (.iload_n 3, 1) := by decide +kernel
theorem dX7_ends_111 : decode cX7_ends 111 = .ok (.iload 4, 2) := by decide +kernel
theorem dX7_ends_113 : decode cX7_ends 113 = .ok (.iastore, 1) := by decide +kernel
theorem dX7_ends_114 : decode cX7_ends 114 = .ok (.return_, 1) := by decide +kernel
theorem dX7_first_0 : decode cX7_first 0 = .ok (.iconst 0, 1) := by decide +kernel
theorem dX7_first_1 : decode cX7_first 1 = .ok (.istore_n 2, 1) := by decide +kernel
theorem dX7_first_2 : decode cX7_first 2 = .ok (.iload_n 2, 1) := by decide +kernel
theorem dX7_first_3 : decode cX7_first 3 = .ok (.aload_n 0, 1) := by decide +kernel
theorem dX7_first_4 : decode cX7_first 4 = .ok (.getfield 44, 3) := by decide +kernel
theorem dX7_first_7 : decode cX7_first 7 = .ok (.iload_n 1, 1) := by decide +kernel
theorem dX7_first_8 : decode cX7_first 8 = .ok (.iaload, 1) := by decide +kernel
theorem dX7_first_9 : decode cX7_first 9 = .ok (.if_icmp .ge 46, 3) := by decide +kernel
theorem dX7_first_12 : decode cX7_first 12 = .ok (.aload_n 0, 1) := by decide +kernel
theorem dX7_first_13 : decode cX7_first 13 = .ok (.getfield 47, 3) := by decide +kernel
theorem dX7_first_16 : decode cX7_first 16 = .ok (.sipush 200, 3) := by decide +kernel
theorem dX7_first_19 : decode cX7_first 19 = .ok (.iload_n 1, 1) := by decide +kernel
theorem dX7_first_20 : decode cX7_first 20 = .ok (.imul, 1) := by decide +kernel
theorem dX7_first_21 : decode cX7_first 21 = .ok (.iload_n 2, 1) := by decide +kernel
theorem dX7_first_22 : decode cX7_first 22 = .ok (.iadd, 1) := by decide +kernel
theorem dX7_first_23 : decode cX7_first 23 = .ok (.iaload, 1) := by decide +kernel
theorem dX7_first_24 : decode cX7_first 24 = .ok (.istore_n 3, 1) := by decide +kernel
theorem dX7_first_25 : decode cX7_first 25 = .ok (.aload_n 0, 1) := by decide +kernel
theorem dX7_first_26 : decode cX7_first 26 = .ok (.getfield 31, 3) := by decide +kernel
theorem dX7_first_29 : decode cX7_first 29 = .ok (.iload_n 3, 1) := by decide +kernel
theorem dX7_first_30 : decode cX7_first 30 = .ok (.iaload, 1) := by decide +kernel
theorem dX7_first_31 : decode cX7_first 31 = .ok (.aload_n 0, 1) := by decide +kernel
theorem dX7_first_32 : decode cX7_first 32 = .ok (.getfield 127, 3) := by decide +kernel
theorem dX7_first_35 : decode cX7_first 35 = .ok (.if_icmp .gt 14, 3) := by decide +kernel
theorem dX7_first_38 : decode cX7_first 38 = .ok (.aload_n 0, 1) := by decide +kernel
theorem dX7_first_39 : decode cX7_first 39 = .ok (.getfield 37, 3) := by decide +kernel
theorem dX7_first_42 : decode cX7_first 42 = .ok (.iload_n 3, 1) := by decide +kernel
theorem dX7_first_43 : decode cX7_first 43 = .ok (.baload, 1) := by decide +kernel
theorem dX7_first_44 : decode cX7_first 44 = .ok (.ifCond .ne 5, 3) := by decide +kernel
theorem dX7_first_47 : decode cX7_first 47 = .ok (.iload_n 2, 1) := by decide +kernel
theorem dX7_first_48 : decode cX7_first 48 = .ok (.ireturn, 1) := by decide +kernel
theorem dX7_first_49 : decode cX7_first 49 = .ok (.iinc 2 1, 3) := by decide +kernel
theorem dX7_first_52 : decode cX7_first 52 = .ok (.goto (-50), 3) := by decide +kernel
theorem dX7_first_55 : decode cX7_first 55 = .ok (.iconst (-1), 1) := by decide +kernel
theorem dX7_first_56 : decode cX7_first 56 = .ok (.ireturn, 1) := by decide +kernel
theorem dX7_sends_0 : decode cX7_sends 0 = .ok (.iconst 0, 1) := by decide +kernel
theorem dX7_sends_1 : decode cX7_sends 1 = .ok (.istore_n 2, 1) := by decide +kernel
theorem dX7_sends_2 : decode cX7_sends 2 = .ok (.aload_n 0, 1) := by decide +kernel
theorem dX7_sends_3 : decode cX7_sends 3 = .ok (.iload_n 1, 1) := by decide +kernel
theorem dX7_sends_4 : decode cX7_sends 4 = .ok (.invokevirtual 146, 3) := by decide +kernel
theorem dX7_sends_7 : decode cX7_sends 7 = .ok (.istore_n 3, 1) := by decide +kernel
theorem dX7_sends_8 : decode cX7_sends 8 = .ok (.aload_n 0, 1) := by decide +kernel
theorem dX7_sends_9 : decode cX7_sends 9 = .ok (.getfield 56, 3) := by decide +kernel
theorem dX7_sends_12 : decode cX7_sends 12 = .ok (.iload_n 1, 1) := by decide +kernel
theorem dX7_sends_13 : decode cX7_sends 13 = .ok (.baload, 1) := by decide +kernel
theorem dX7_sends_14 : decode cX7_sends 14 = .ok (.ifCond .ne 151, 3) := by decide +kernel
theorem dX7_sends_17 : decode cX7_sends 17 = .ok (.aload_n 0, 1) := by decide +kernel
theorem dX7_sends_18 : decode cX7_sends 18 = .ok (.getfield 59, 3) := by decide +kernel
theorem dX7_sends_21 : decode cX7_sends 21 = .ok (.iload_n 1, 1) := by decide +kernel
theorem dX7_sends_22 : decode cX7_sends 22 = .ok (.iaload, 1) := by decide +kernel
theorem dX7_sends_23 : decode cX7_sends 23 = .ok (.ifCond .le 142, 3) := by decide +kernel
theorem dX7_sends_26 : decode cX7_sends 26 = .ok (.aload_n 0, 1) := by decide +kernel
theorem dX7_sends_27 : decode cX7_sends 27 = .ok (.getfield 50, 3) := by decide +kernel
theorem dX7_sends_30 : decode cX7_sends 30 = .ok (.iload_n 1, 1) := by decide +kernel
theorem dX7_sends_31 : decode cX7_sends 31 = .ok (.iaload, 1) := by decide +kernel
theorem dX7_sends_32 : decode cX7_sends 32 = .ok (.aload_n 0, 1) := by decide +kernel
theorem dX7_sends_33 : decode cX7_sends 33 = .ok (.getfield 62, 3) := by decide +kernel
theorem dX7_sends_36 : decode cX7_sends 36 = .ok (.iload_n 1, 1) := by decide +kernel
theorem dX7_sends_37 : decode cX7_sends 37 = .ok (.iaload, 1) := by decide +kernel
theorem dX7_sends_38 : decode cX7_sends 38 = .ok (.if_icmp .ge 127, 3) := by decide +kernel
theorem dX7_sends_41 : decode cX7_sends 41 = .ok (.iload_n 3, 1) := by decide +kernel
theorem dX7_sends_42 : decode cX7_sends 42 = .ok (.iconst (-1), 1) := by decide +kernel
theorem dX7_sends_43 : decode cX7_sends 43 = .ok (.if_icmp .eq 122, 3) := by decide +kernel
theorem dX7_sends_46 : decode cX7_sends 46 = .ok (.aload_n 0, 1) := by decide +kernel
theorem dX7_sends_47 : decode cX7_sends 47 = .ok (.getfield 53, 3) := by decide +kernel
theorem dX7_sends_50 : decode cX7_sends 50 = .ok (.sipush 200, 3) := by decide +kernel
theorem dX7_sends_53 : decode cX7_sends 53 = .ok (.iload_n 1, 1) := by decide +kernel
theorem dX7_sends_54 : decode cX7_sends 54 = .ok (.imul, 1) := by decide +kernel
theorem dX7_sends_55 : decode cX7_sends 55 = .ok (.aload_n 0, 1) := by decide +kernel
theorem dX7_sends_56 : decode cX7_sends 56 = .ok (.getfield 50, 3) := by decide +kernel
theorem dX7_sends_59 : decode cX7_sends 59 = .ok (.iload_n 1, 1) := by decide +kernel
theorem dX7_sends_60 : decode cX7_sends 60 = .ok (.iaload, 1) := by decide +kernel
theorem dX7_sends_61 : decode cX7_sends 61 = .ok (.iadd, 1) := by decide +kernel
theorem dX7_sends_62 : decode cX7_sends 62 = .ok (.aload_n 0, 1) := by decide +kernel
theorem dX7_sends_63 : decode cX7_sends 63 = .ok (.getfield 47, 3) := by decide +kernel
theorem dX7_sends_66 : decode cX7_sends 66 = .ok (.sipush 200, 3) := by decide +kernel
theorem dX7_sends_69 : decode cX7_sends 69 = .ok (.iload_n 1, 1) := by decide +kernel
theorem dX7_sends_70 : decode cX7_sends 70 = .ok (.imul, 1) := by decide +kernel
theorem dX7_sends_71 : decode cX7_sends 71 = .ok (.iload_n 3, 1) := by decide +kernel
theorem dX7_sends_72 : decode cX7_sends 72 = .ok (.iadd, 1) := by decide +kernel
theorem dX7_sends_73 : decode cX7_sends 73 = .ok (.iaload, 1) := by decide +kernel
theorem dX7_sends_74 : decode cX7_sends 74 = .ok (.iastore, 1) := by decide +kernel
theorem dX7_sends_75 : decode cX7_sends 75 = .ok (.aload_n 0, 1) := by decide +kernel
theorem dX7_sends_76 : decode cX7_sends 76 = .ok (.getfield 50, 3) := by decide +kernel
theorem dX7_sends_79 : decode cX7_sends 79 = .ok (.iload_n 1, 1) := by decide +kernel
theorem dX7_sends_80 : decode cX7_sends 80 = .ok (.dup2, 1) := by decide +kernel
theorem dX7_sends_81 : decode cX7_sends 81 = .ok (.iaload, 1) := by decide +kernel
theorem dX7_sends_82 : decode cX7_sends 82 = .ok (.iconst 1, 1) := by decide +kernel
theorem dX7_sends_83 : decode cX7_sends 83 = .ok (.iadd, 1) := by decide +kernel
theorem dX7_sends_84 : decode cX7_sends 84 = .ok (.iastore, 1) := by decide +kernel
theorem dX7_sends_85 : decode cX7_sends 85 = .ok (.aload_n 0, 1) := by decide +kernel
theorem dX7_sends_86 : decode cX7_sends 86 = .ok (.getfield 59, 3) := by decide +kernel
theorem dX7_sends_89 : decode cX7_sends 89 = .ok (.iload_n 1, 1) := by decide +kernel
theorem dX7_sends_90 : decode cX7_sends 90 = .ok (.dup2, 1) := by decide +kernel
theorem dX7_sends_91 : decode cX7_sends 91 = .ok (.iaload, 1) := by decide +kernel
theorem dX7_sends_92 : decode cX7_sends 92 = .ok (.iconst 1, 1) := by decide +kernel
theorem dX7_sends_93 : decode cX7_sends 93 = .ok (.isub, 1) := by decide +kernel
theorem dX7_sends_94 : decode cX7_sends 94 = .ok (.iastore, 1) := by decide +kernel
theorem dX7_sends_95 : decode cX7_sends 95 = .ok (.aload_n 0, 1) := by decide +kernel
theorem dX7_sends_96 : decode cX7_sends 96 = .ok (.getfield 44, 3) := by decide +kernel
theorem dX7_sends_99 : decode cX7_sends 99 = .ok (.iload_n 1, 1) := by decide +kernel
theorem dX7_sends_100 : decode cX7_sends 100 = .ok (.dup2, 1) := by decide +kernel
theorem dX7_sends_101 : decode cX7_sends 101 = .ok (.iaload, 1) := by decide +kernel
theorem dX7_sends_102 : decode cX7_sends 102 = .ok (.iconst 1, 1) := by decide +kernel
theorem dX7_sends_103 : decode cX7_sends 103 = .ok (.isub, 1) := by decide +kernel
theorem dX7_sends_104 : decode cX7_sends 104 = .ok (.iastore, 1) := by decide +kernel
theorem dX7_sends_105 : decode cX7_sends 105 = .ok (.sipush 200, 3) := by decide +kernel
theorem dX7_sends_108 : decode cX7_sends 108 = .ok (.iload_n 1, 1) := by decide +kernel
theorem dX7_sends_109 : decode cX7_sends 109 = .ok (.imul, 1) := by decide +kernel
theorem dX7_sends_110 : decode cX7_sends 110 = .ok (.iload_n 3, 1) := by decide +kernel
theorem dX7_sends_111 : decode cX7_sends 111 = .ok (.iadd, 1) := by decide +kernel
theorem dX7_sends_112 : decode cX7_sends 112 = .ok (.istore 4, 2) := by decide +kernel
theorem dX7_sends_114 : decode cX7_sends 114 = .ok (.iload 4, 2) := by decide +kernel
theorem dX7_sends_116 : decode cX7_sends 116 = .ok (.sipush 200, 3) := by decide +kernel
theorem dX7_sends_119 : decode cX7_sends 119 = .ok (.iload_n 1, 1) := by decide +kernel
theorem dX7_sends_120 : decode cX7_sends 120 = .ok (.imul, 1) := by decide +kernel
theorem dX7_sends_121 : decode cX7_sends 121 = .ok (.aload_n 0, 1) := by decide +kernel
theorem dX7_sends_122 : decode cX7_sends 122 = .ok (.getfield 44, 3) := by decide +kernel
theorem dX7_sends_125 : decode cX7_sends 125 = .ok (.iload_n 1, 1) := by decide +kernel
theorem dX7_sends_126 : decode cX7_sends 126 = .ok (.iaload, 1) := by decide +kernel
theorem dX7_sends_127 : decode cX7_sends 127 = .ok (.iadd, 1) := by decide +kernel
theorem dX7_sends_128 : decode cX7_sends 128 = .ok (.if_icmp .ge 25, 3) := by decide +kernel
theorem dX7_sends_131 : decode cX7_sends 131 = .ok (.aload_n 0, 1) := by decide +kernel
theorem dX7_sends_132 : decode cX7_sends 132 = .ok (.getfield 47, 3) := by decide +kernel
theorem dX7_sends_135 : decode cX7_sends 135 = .ok (.iload 4, 2) := by decide +kernel
theorem dX7_sends_137 : decode cX7_sends 137 = .ok (.aload_n 0, 1) := by decide +kernel
theorem dX7_sends_138 : decode cX7_sends 138 = .ok (.getfield 47, 3) := by decide +kernel
theorem dX7_sends_141 : decode cX7_sends 141 = .ok (.iload 4, 2) := by decide +kernel
theorem dX7_sends_143 : decode cX7_sends 143 = .ok (.iconst 1, 1) := by decide +kernel
theorem dX7_sends_144 : decode cX7_sends 144 = .ok (.iadd, 1) := by decide +kernel
theorem dX7_sends_145 : decode cX7_sends 145 = .ok (.iaload, 1) := by decide +kernel
theorem dX7_sends_146 : decode cX7_sends 146 = .ok (.iastore, 1) := by decide +kernel
theorem dX7_sends_147 : decode cX7_sends 147 = .ok (.iinc 4 1, 3) := by decide +kernel
theorem dX7_sends_150 : decode cX7_sends 150 = .ok (.goto (-36), 3) := by decide +kernel
theorem dX7_sends_153 : decode cX7_sends 153 = .ok (.iinc 2 1, 3) := by decide +kernel
theorem dX7_sends_156 : decode cX7_sends 156 = .ok (.aload_n 0, 1) := by decide +kernel
theorem dX7_sends_157 : decode cX7_sends 157 = .ok (.iload_n 1, 1) := by decide +kernel
theorem dX7_sends_158 : decode cX7_sends 158 = .ok (.invokevirtual 146, 3) := by decide +kernel
theorem dX7_sends_161 : decode cX7_sends 161 = .ok (.istore_n 3, 1) := by decide +kernel
theorem dX7_sends_162 : decode cX7_sends 162 = .ok (.goto (-154), 3) := by decide +kernel
theorem dX7_sends_165 : decode cX7_sends 165 = .ok (.iload_n 2, 1) := by decide +kernel
theorem dX7_sends_166 : decode cX7_sends 166 = .ok (.ireturn, 1) := by decide +kernel
theorem dX7_pass_0 : decode cX7_pass 0 = .ok (.aload_n 0, 1) := by decide +kernel
theorem dX7_pass_1 : decode cX7_pass 1 = .ok (.iload_n 1, 1) := by decide +kernel
theorem dX7_pass_2 : decode cX7_pass 2 = .ok (.iconst 1, 1) := by decide +kernel
theorem dX7_pass_3 : decode cX7_pass 3 = .ok (.sipush 200, 3) := by decide +kernel
theorem dX7_pass_6 : decode cX7_pass 6 = .ok (.invokestatic 94, 3) := by decide +kernel
theorem dX7_pass_9 : decode cX7_pass 9 = .ok (.ifCond .eq 7, 3) := by decide +kernel
theorem dX7_pass_12 : decode cX7_pass 12 = .ok (.iconst 0, 1) := by decide +kernel
theorem dX7_pass_13 : decode cX7_pass 13 = .ok (.goto 4, 3) := by decide +kernel
theorem dX7_pass_16 : decode cX7_pass 16 = .ok (.iconst 1, 1) := by decide +kernel
theorem dX7_pass_17 : decode cX7_pass 17 = .ok (.invokevirtual 101, 3) := by decide +kernel
theorem dX7_pass_20 : decode cX7_pass 20 = .ok (.ifCond .eq 5, 3) := by decide +kernel
theorem dX7_pass_23 : decode cX7_pass 23 = .ok (.iconst 0, 1) := by decide +kernel
theorem dX7_pass_24 : decode cX7_pass 24 = .ok (.ireturn, 1) := by decide +kernel
theorem dX7_pass_25 : decode cX7_pass 25 = .ok (.iconst 0, 1) := by decide +kernel
theorem dX7_pass_26 : decode cX7_pass 26 = .ok (.istore_n 2, 1) := by decide +kernel
theorem dX7_pass_27 : decode cX7_pass 27 = .ok (.iconst 0, 1) := by decide +kernel
theorem dX7_pass_28 : decode cX7_pass 28 = .ok (.istore_n 3, 1) := by decide +kernel
theorem dX7_pass_29 : decode cX7_pass 29 = .ok (.iload_n 3, 1) := by decide +kernel
theorem dX7_pass_30 : decode cX7_pass 30 = .ok (.iload_n 1, 1) := by decide +kernel
theorem dX7_pass_31 : decode cX7_pass 31 = .ok (.if_icmp .ge 118, 3) := by decide +kernel
theorem dX7_pass_34 : decode cX7_pass 34 = .ok (.aload_n 0, 1) := by decide +kernel
theorem dX7_pass_35 : decode cX7_pass 35 = .ok (.dup, 1) := by decide +kernel
theorem dX7_pass_36 : decode cX7_pass 36 = .ok (.getfield 127, 3) := by decide +kernel
theorem dX7_pass_39 : decode cX7_pass 39 = .ok (.iconst 1, 1) := by decide +kernel
theorem dX7_pass_40 : decode cX7_pass 40 = .ok (.iadd, 1) := by decide +kernel
theorem dX7_pass_41 : decode cX7_pass 41 = .ok (.putfield 127, 3) := by decide +kernel
theorem dX7_pass_44 : decode cX7_pass 44 = .ok (.iconst 0, 1) := by decide +kernel
theorem dX7_pass_45 : decode cX7_pass 45 = .ok (.istore 4, 2) := by decide +kernel
theorem dX7_pass_47 : decode cX7_pass 47 = .ok (.iload 4, 2) := by decide +kernel
theorem dX7_pass_49 : decode cX7_pass 49 = .ok (.aload_n 0, 1) := by decide +kernel
theorem dX7_pass_50 : decode cX7_pass 50 = .ok (.getfield 124, 3) := by decide +kernel
theorem dX7_pass_53 : decode cX7_pass 53 = .ok (.if_icmp .ge 40, 3) := by decide +kernel
theorem dX7_pass_56 : decode cX7_pass 56 = .ok (.aload_n 0, 1) := by decide +kernel
theorem dX7_pass_57 : decode cX7_pass 57 = .ok (.getfield 25, 3) := by decide +kernel
theorem dX7_pass_60 : decode cX7_pass 60 = .ok (.iload 4, 2) := by decide +kernel
theorem dX7_pass_62 : decode cX7_pass 62 = .ok (.iaload, 1) := by decide +kernel
theorem dX7_pass_63 : decode cX7_pass 63 = .ok (.ifCond .ne 24, 3) := by decide +kernel
theorem dX7_pass_66 : decode cX7_pass 66 = .ok (.aload_n 0, 1) := by decide +kernel
theorem dX7_pass_67 : decode cX7_pass 67 = .ok (.getfield 127, 3) := by decide +kernel
theorem dX7_pass_70 : decode cX7_pass 70 = .ok (.aload_n 0, 1) := by decide +kernel
theorem dX7_pass_71 : decode cX7_pass 71 = .ok (.getfield 22, 3) := by decide +kernel
theorem dX7_pass_74 : decode cX7_pass 74 = .ok (.iload 4, 2) := by decide +kernel
theorem dX7_pass_76 : decode cX7_pass 76 = .ok (.iaload, 1) := by decide +kernel
theorem dX7_pass_77 : decode cX7_pass 77 = .ok (.if_icmp .lt 10, 3) := by decide +kernel
theorem dX7_pass_80 : decode cX7_pass 80 = .ok (.aload_n 0, 1) := by decide +kernel
theorem dX7_pass_81 : decode cX7_pass 81 = .ok (.iload 4, 2) := by decide +kernel
theorem dX7_pass_83 : decode cX7_pass 83 = .ok (.iconst 3, 1) := by decide +kernel
theorem dX7_pass_84 : decode cX7_pass 84 = .ok (.invokevirtual 149, 3) := by decide +kernel
theorem dX7_pass_87 : decode cX7_pass 87 = .ok (.iinc 4 1, 3) := by decide +kernel
theorem dX7_pass_90 : decode cX7_pass 90 = .ok (.goto (-43), 3) := by decide +kernel
theorem dX7_pass_93 : decode cX7_pass 93 = .ok (.iconst 0, 1) := by decide +kernel
theorem dX7_pass_94 : decode cX7_pass 94 = .ok (.istore 4, 2) := by decide +kernel
theorem dX7_pass_96 : decode cX7_pass 96 = .ok (.iload 4, 2) := by decide +kernel
theorem dX7_pass_98 : decode cX7_pass 98 = .ok (.iconst 3, 1) := by decide +kernel
theorem dX7_pass_99 : decode cX7_pass 99 = .ok (.if_icmp .ge 44, 3) := by decide +kernel
theorem dX7_pass_102 : decode cX7_pass 102 = .ok (.aload_n 0, 1) := by decide +kernel
theorem dX7_pass_103 : decode cX7_pass 103 = .ok (.getfield 59, 3) := by decide +kernel
theorem dX7_pass_106 : decode cX7_pass 106 = .ok (.iload 4, 2) := by decide +kernel
theorem dX7_pass_108 : decode cX7_pass 108 = .ok (.dup2, 1) := by decide +kernel
theorem dX7_pass_109 : decode cX7_pass 109 = .ok (.iaload, 1) := by decide +kernel
theorem dX7_pass_110 : decode cX7_pass 110 = .ok (.aload_n 0, 1) := by decide +kernel
theorem dX7_pass_111 : decode cX7_pass 111 = .ok (.getfield 59, 3) := by decide +kernel
theorem dX7_pass_114 : decode cX7_pass 114 = .ok (.iload 4, 2) := by decide +kernel
theorem dX7_pass_116 : decode cX7_pass 116 = .ok (.iaload, 1) := by decide +kernel
theorem dX7_pass_117 : decode cX7_pass 117 = .ok (.iconst 5, 1) := by decide +kernel
theorem dX7_pass_118 : decode cX7_pass 118 = .ok (.if_icmp .ge 7, 3) := by decide +kernel
theorem dX7_pass_121 : decode cX7_pass 121 = .ok (.iconst 1, 1) := by decide +kernel
theorem dX7_pass_122 : decode cX7_pass 122 = .ok (.goto 4, 3) := by decide +kernel
theorem dX7_pass_125 : decode cX7_pass 125 = .ok (.iconst 0, 1) := by decide +kernel
theorem dX7_pass_126 : decode cX7_pass 126 = .ok (.iadd, 1) := by decide +kernel
theorem dX7_pass_127 : decode cX7_pass 127 = .ok (.iastore, 1) := by decide +kernel
theorem dX7_pass_128 : decode cX7_pass 128 = .ok (.iload_n 2, 1) := by decide +kernel
theorem dX7_pass_129 : decode cX7_pass 129 = .ok (.aload_n 0, 1) := by decide +kernel
theorem dX7_pass_130 : decode cX7_pass 130 = .ok (.iload 4, 2) := by decide +kernel
theorem dX7_pass_132 : decode cX7_pass 132 = .ok (.invokevirtual 153, 3) := by decide +kernel
theorem dX7_pass_135 : decode cX7_pass 135 = .ok (.iadd, 1) := by decide +kernel
theorem dX7_pass_136 : decode cX7_pass 136 = .ok (.istore_n 2, 1) := by decide +kernel
theorem dX7_pass_137 : decode cX7_pass 137 = .ok (.iinc 4 1, 3) := by decide +kernel
theorem dX7_pass_140 : decode cX7_pass 140 = .ok (.goto (-44), 3) := by decide +kernel
theorem dX7_pass_143 : decode cX7_pass 143 = .ok (.iinc 3 1, 3) := by decide +kernel
theorem dX7_pass_146 : decode cX7_pass 146 = .ok (.goto (-117), 3) := by decide +kernel
theorem dX7_pass_149 : decode cX7_pass 149 = .ok (.iload_n 2, 1) := by decide +kernel
theorem dX7_pass_150 : decode cX7_pass 150 = .ok (.ireturn, 1) := by decide +kernel
theorem dX7_time_0 : decode cX7_time 0 = .ok (.aload_n 0, 1) := by decide +kernel
theorem dX7_time_1 : decode cX7_time 1 = .ok (.aload_n 0, 1) := by decide +kernel
theorem dX7_time_2 : decode cX7_time 2 = .ok (.getfield 127, 3) := by decide +kernel
theorem dX7_time_5 : decode cX7_time 5 = .ok (.invokevirtual 108, 3) := by decide +kernel
theorem dX7_time_8 : decode cX7_time 8 = .ok (.ireturn, 1) := by decide +kernel
theorem dX7_isLink_0 : decode cX7_isLink 0 = .ok (.iload_n 0, 1) := by decide +kernel
theorem dX7_isLink_1 : decode cX7_isLink 1 = .ok (.iconst 0, 1) := by decide +kernel
theorem dX7_isLink_2 : decode cX7_isLink 2 = .ok (.iconst 2, 1) := by decide +kernel
theorem dX7_isLink_3 : decode cX7_isLink 3 = .ok (.invokestatic 94, 3) := by decide +kernel
theorem dX7_isLink_6 : decode cX7_isLink 6 = .ok (.ireturn, 1) := by decide +kernel
theorem dX7_toggleLink_0 : decode cX7_toggleLink 0 = .ok (.aload_n 0, 1) := by decide +kernel
theorem dX7_toggleLink_1 : decode cX7_toggleLink 1 = .ok (.iload_n 1, 1) := by decide +kernel
theorem dX7_toggleLink_2 : decode cX7_toggleLink 2 = .ok (.invokestatic 156, 3) := by decide +kernel
theorem dX7_toggleLink_5 : decode cX7_toggleLink 5 = .ok (.ifCond .eq 7, 3) := by decide +kernel
theorem dX7_toggleLink_8 : decode cX7_toggleLink 8 = .ok (.iconst 0, 1) := by decide +kernel
theorem dX7_toggleLink_9 : decode cX7_toggleLink 9 = .ok (.goto 4, 3) := by decide +kernel
theorem dX7_toggleLink_12 : decode cX7_toggleLink 12 = .ok (.iconst 1, 1) := by decide +kernel
theorem dX7_toggleLink_13 : decode cX7_toggleLink 13 = .ok (.invokevirtual 101, 3) := by decide +kernel
theorem dX7_toggleLink_16 : decode cX7_toggleLink 16 = .ok (.ifCond .eq 5, 3) := by decide +kernel
theorem dX7_toggleLink_19 : decode cX7_toggleLink 19 = .ok (.iconst 0, 1) := by decide +kernel
theorem dX7_toggleLink_20 : decode cX7_toggleLink 20 = .ok (.ireturn, 1) := by decide +kernel
theorem dX7_toggleLink_21 : decode cX7_toggleLink 21 = .ok (.aload_n 0, 1) := by decide +kernel
theorem dX7_toggleLink_22 : decode cX7_toggleLink 22 = .ok (.getfield 56, 3) := by decide +kernel
theorem dX7_toggleLink_25 : decode cX7_toggleLink 25 = .ok (.iload_n 1, 1) := by decide +kernel
theorem dX7_toggleLink_26 : decode cX7_toggleLink 26 = .ok (.aload_n 0, 1) := by decide +kernel
theorem dX7_toggleLink_27 : decode cX7_toggleLink 27 = .ok (.getfield 56, 3) := by decide +kernel
theorem dX7_toggleLink_30 : decode cX7_toggleLink 30 = .ok (.iload_n 1, 1) := by decide +kernel
theorem dX7_toggleLink_31 : decode cX7_toggleLink 31 = .ok (.baload, 1) := by decide +kernel
theorem dX7_toggleLink_32 : decode cX7_toggleLink 32 = .ok (.ifCond .ne 7, 3) := by decide +kernel
theorem dX7_toggleLink_35 : decode cX7_toggleLink 35 = .ok (.iconst 1, 1) := by decide +kernel
theorem dX7_toggleLink_36 : decode cX7_toggleLink 36 = .ok (.goto 4, 3) := by decide +kernel
theorem dX7_toggleLink_39 : decode cX7_toggleLink 39 = .ok (.iconst 0, 1) := by decide +kernel
theorem dX7_toggleLink_40 : decode cX7_toggleLink 40 = .ok (.bastore, 1) := by decide +kernel
theorem dX7_toggleLink_41 : decode cX7_toggleLink 41 = .ok (.aload_n 0, 1) := by decide +kernel
theorem dX7_toggleLink_42 : decode cX7_toggleLink 42 = .ok (.getfield 56, 3) := by decide +kernel
theorem dX7_toggleLink_45 : decode cX7_toggleLink 45 = .ok (.iload_n 1, 1) := by decide +kernel
theorem dX7_toggleLink_46 : decode cX7_toggleLink 46 = .ok (.baload, 1) := by decide +kernel
theorem dX7_toggleLink_47 : decode cX7_toggleLink 47 = .ok (.ifCond .eq 138, 3) := by decide +kernel
theorem dX7_toggleLink_50 : decode cX7_toggleLink 50 = .ok (.aload_n 0, 1) := by decide +kernel
theorem dX7_toggleLink_51 : decode cX7_toggleLink 51 = .ok (.getfield 50, 3) := by decide +kernel
theorem dX7_toggleLink_54 : decode cX7_toggleLink 54 = .ok (.iload_n 1, 1) := by decide +kernel
theorem dX7_toggleLink_55 : decode cX7_toggleLink 55 = .ok (.iaload, 1) := by decide +kernel
theorem dX7_toggleLink_56 : decode cX7_toggleLink 56 = .ok (.iconst 1, 1) := by decide +kernel
theorem dX7_toggleLink_57 : decode cX7_toggleLink 57 = .ok (.isub, 1) := by decide +kernel
theorem dX7_toggleLink_58 : decode cX7_toggleLink 58 = .ok (.istore_n 2, 1) := by decide +kernel
theorem dX7_toggleLink_59 : decode cX7_toggleLink 59 = .ok (.iload_n 2, 1) := by decide +kernel
theorem dX7_toggleLink_60 : decode cX7_toggleLink 60 = .ok (.ifCond .lt 118, 3) := by decide +kernel
theorem dX7_toggleLink_63 : decode cX7_toggleLink 63 = .ok (.aload_n 0, 1) := by decide +kernel
theorem dX7_toggleLink_64 : decode cX7_toggleLink 64 = .ok (.getfield 53, 3) := by decide +kernel
theorem dX7_toggleLink_67 : decode cX7_toggleLink 67 = .ok (.sipush 200, 3) := by decide +kernel
theorem dX7_toggleLink_70 : decode cX7_toggleLink 70 = .ok (.iload_n 1, 1) := by decide +kernel
theorem dX7_toggleLink_71 : decode cX7_toggleLink 71 = .ok (.imul, 1) := by decide +kernel
theorem dX7_toggleLink_72 : decode cX7_toggleLink 72 = .ok (.iload_n 2, 1) := by decide +kernel
theorem dX7_toggleLink_73 : decode cX7_toggleLink 73 = .ok (.iadd, 1) := by decide +kernel
theorem dX7_toggleLink_74 : decode cX7_toggleLink 74 = .ok (.iaload, 1) := by decide +kernel
theorem dX7_toggleLink_75 : decode cX7_toggleLink 75 = .ok (.istore_n 3, 1) := by decide +kernel
theorem dX7_toggleLink_76 : decode cX7_toggleLink 76 = .ok (.aload_n 0, 1) := by decide +kernel
theorem dX7_toggleLink_77 : decode cX7_toggleLink 77 = .ok (.getfield 25, 3) := by decide +kernel
theorem dX7_toggleLink_80 : decode cX7_toggleLink 80 = .ok (.iload_n 3, 1) := by decide +kernel
theorem dX7_toggleLink_81 : decode cX7_toggleLink 81 = .ok (.bipush 10, 2) := by decide +kernel
theorem dX7_toggleLink_83 : decode cX7_toggleLink 83 = .ok (.idiv, 1) := by decide +kernel
theorem dX7_toggleLink_84 : decode cX7_toggleLink 84 = .ok (.iaload, 1) := by decide +kernel
theorem dX7_toggleLink_85 : decode cX7_toggleLink 85 = .ok (.ifCond .ne 87, 3) := by decide +kernel
theorem dX7_toggleLink_88 : decode cX7_toggleLink 88 = .ok (.sipush 200, 3) := by decide +kernel
theorem dX7_toggleLink_91 : decode cX7_toggleLink 91 = .ok (.iload_n 1, 1) := by decide +kernel
theorem dX7_toggleLink_92 : decode cX7_toggleLink 92 = .ok (.imul, 1) := by decide +kernel
theorem dX7_toggleLink_93 : decode cX7_toggleLink 93 = .ok (.aload_n 0, 1) := by decide +kernel
theorem dX7_toggleLink_94 : decode cX7_toggleLink 94 = .ok (.getfield 44, 3) := by decide +kernel
theorem dX7_toggleLink_97 : decode cX7_toggleLink 97 = .ok (.iload_n 1, 1) := by decide +kernel
theorem dX7_toggleLink_98 : decode cX7_toggleLink 98 = .ok (.iaload, 1) := by decide +kernel
theorem dX7_toggleLink_99 : decode cX7_toggleLink 99 = .ok (.iadd, 1) := by decide +kernel
theorem dX7_toggleLink_100 : decode cX7_toggleLink 100 = .ok (.istore 4, 2) := by decide +kernel
theorem dX7_toggleLink_102 : decode cX7_toggleLink 102 = .ok (.iload 4, 2) := by decide +kernel
theorem dX7_toggleLink_104 : decode cX7_toggleLink 104 = .ok (.sipush 200, 3) := by decide +kernel
theorem dX7_toggleLink_107 : decode cX7_toggleLink 107 = .ok (.iload_n 1, 1) := by decide +kernel
theorem dX7_toggleLink_108 : decode cX7_toggleLink 108 = .ok (.imul, 1) := by decide +kernel
theorem dX7_toggleLink_109 : decode cX7_toggleLink 109 = .ok (.if_icmp .le 25, 3) := by decide +kernel
theorem dX7_toggleLink_112 : decode cX7_toggleLink 112 = .ok (.aload_n 0, 1) := by decide +kernel
theorem dX7_toggleLink_113 : decode cX7_toggleLink 113 = .ok (.getfield 47, 3) := by decide +kernel
theorem dX7_toggleLink_116 : decode cX7_toggleLink 116 = .ok (.iload 4, 2) := by decide +kernel
theorem dX7_toggleLink_118 : decode cX7_toggleLink 118 = .ok (.aload_n 0, 1) := by decide +kernel
theorem dX7_toggleLink_119 : decode cX7_toggleLink 119 = .ok (.getfield 47, 3) := by decide +kernel
theorem dX7_toggleLink_122 : decode cX7_toggleLink 122 = .ok (.iload 4, 2) := by decide +kernel
theorem dX7_toggleLink_124 : decode cX7_toggleLink 124 = .ok (.iconst 1, 1) := by decide +kernel
theorem dX7_toggleLink_125 : decode cX7_toggleLink 125 = .ok (.isub, 1) := by decide +kernel
theorem dX7_toggleLink_126 : decode cX7_toggleLink 126 = .ok (.iaload, 1) := by decide +kernel
theorem dX7_toggleLink_127 : decode cX7_toggleLink 127 = .ok (.iastore, 1) := by decide +kernel
theorem dX7_toggleLink_128 : decode cX7_toggleLink 128 = .ok (.iinc 4 (-1), 3) := by decide +kernel
theorem dX7_toggleLink_131 : decode cX7_toggleLink 131 = .ok (.goto (-29), 3) := by decide +kernel
theorem dX7_toggleLink_134 : decode cX7_toggleLink 134 = .ok (.aload_n 0, 1) := by decide +kernel
theorem dX7_toggleLink_135 : decode cX7_toggleLink 135 = .ok (.getfield 47, 3) := by decide +kernel
theorem dX7_toggleLink_138 : decode cX7_toggleLink 138 = .ok (.sipush 200, 3) := by decide +kernel
theorem dX7_toggleLink_141 : decode cX7_toggleLink 141 = .ok (.iload_n 1, 1) := by decide +kernel
theorem dX7_toggleLink_142 : decode cX7_toggleLink 142 = .ok (.imul, 1) := by decide +kernel
theorem dX7_toggleLink_143 : decode cX7_toggleLink 143 = .ok (.iload_n 3, 1) := by decide +kernel
theorem dX7_toggleLink_144 : decode cX7_toggleLink 144 = .ok (.iastore, 1) := by decide +kernel
theorem dX7_toggleLink_145 : decode cX7_toggleLink 145 = .ok (.aload_n 0, 1) := by decide +kernel
theorem dX7_toggleLink_146 : decode cX7_toggleLink 146 = .ok (.getfield 44, 3) := by decide +kernel
theorem dX7_toggleLink_149 : decode cX7_toggleLink 149 = .ok (.iload_n 1, 1) := by decide +kernel
theorem dX7_toggleLink_150 : decode cX7_toggleLink 150 = .ok (.dup2, 1) := by decide +kernel
theorem dX7_toggleLink_151 : decode cX7_toggleLink 151 = .ok (.iaload, 1) := by decide +kernel
theorem dX7_toggleLink_152 : decode cX7_toggleLink 152 = .ok (.iconst 1, 1) := by decide +kernel
theorem dX7_toggleLink_153 : decode cX7_toggleLink 153 = .ok (.iadd, 1) := by decide +kernel
theorem dX7_toggleLink_154 : decode cX7_toggleLink 154 = .ok (.iastore, 1) := by decide +kernel
theorem dX7_toggleLink_155 : decode cX7_toggleLink 155 = .ok (.aload_n 0, 1) := by decide +kernel
theorem dX7_toggleLink_156 : decode cX7_toggleLink 156 = .ok (.getfield 31, 3) := by decide +kernel
theorem dX7_toggleLink_159 : decode cX7_toggleLink 159 = .ok (.iload_n 3, 1) := by decide +kernel
theorem dX7_toggleLink_160 : decode cX7_toggleLink 160 = .ok (.aload_n 0, 1) := by decide +kernel
theorem dX7_toggleLink_161 : decode cX7_toggleLink 161 = .ok (.getfield 127, 3) := by decide +kernel
theorem dX7_toggleLink_164 : decode cX7_toggleLink 164 = .ok (.iastore, 1) := by decide +kernel
theorem dX7_toggleLink_165 : decode cX7_toggleLink 165 = .ok (.aload_n 0, 1) := by decide +kernel
theorem dX7_toggleLink_166 : decode cX7_toggleLink 166 = .ok (.getfield 37, 3) := by decide +kernel
theorem dX7_toggleLink_169 : decode cX7_toggleLink 169 = .ok (.iload_n 3, 1) := by decide +kernel
theorem dX7_toggleLink_170 : decode cX7_toggleLink 170 = .ok (.iconst 0, 1) := by decide +kernel
theorem dX7_toggleLink_171 : decode cX7_toggleLink 171 = .ok (.bastore, 1) := by decide +kernel
theorem dX7_toggleLink_172 : decode cX7_toggleLink 172 = .ok (.iinc 2 (-1), 3) := by decide +kernel
theorem dX7_toggleLink_175 : decode cX7_toggleLink 175 = .ok (.goto (-116), 3) := by decide +kernel
theorem dX7_toggleLink_178 : decode cX7_toggleLink 178 = .ok (.aload_n 0, 1) := by decide +kernel
theorem dX7_toggleLink_179 : decode cX7_toggleLink 179 = .ok (.getfield 50, 3) := by decide +kernel
theorem dX7_toggleLink_182 : decode cX7_toggleLink 182 = .ok (.iload_n 1, 1) := by decide +kernel
theorem dX7_toggleLink_183 : decode cX7_toggleLink 183 = .ok (.iconst 0, 1) := by decide +kernel
theorem dX7_toggleLink_184 : decode cX7_toggleLink 184 = .ok (.iastore, 1) := by decide +kernel
theorem dX7_toggleLink_185 : decode cX7_toggleLink 185 = .ok (.aload_n 0, 1) := by decide +kernel
theorem dX7_toggleLink_186 : decode cX7_toggleLink 186 = .ok (.getfield 56, 3) := by decide +kernel
theorem dX7_toggleLink_189 : decode cX7_toggleLink 189 = .ok (.iload_n 1, 1) := by decide +kernel
theorem dX7_toggleLink_190 : decode cX7_toggleLink 190 = .ok (.baload, 1) := by decide +kernel
theorem dX7_toggleLink_191 : decode cX7_toggleLink 191 = .ok (.ifCond .ne 7, 3) := by decide +kernel
theorem dX7_toggleLink_194 : decode cX7_toggleLink 194 = .ok (.iconst 1, 1) := by decide +kernel
theorem dX7_toggleLink_195 : decode cX7_toggleLink 195 = .ok (.goto 4, 3) := by decide +kernel
theorem dX7_toggleLink_198 : decode cX7_toggleLink 198 = .ok (.iconst 0, 1) := by decide +kernel
theorem dX7_toggleLink_199 : decode cX7_toggleLink 199 = .ok (.ireturn, 1) := by decide +kernel
theorem dX7_setWindow_0 : decode cX7_setWindow 0 = .ok (.aload_n 0, 1) := by decide +kernel
theorem dX7_setWindow_1 : decode cX7_setWindow 1 = .ok (.iload_n 1, 1) := by decide +kernel
theorem dX7_setWindow_2 : decode cX7_setWindow 2 = .ok (.invokestatic 156, 3) := by decide +kernel
theorem dX7_setWindow_5 : decode cX7_setWindow 5 = .ok (.ifCond .ne 7, 3) := by decide +kernel
theorem dX7_setWindow_8 : decode cX7_setWindow 8 = .ok (.iconst 1, 1) := by decide +kernel
theorem dX7_setWindow_9 : decode cX7_setWindow 9 = .ok (.goto 18, 3) := by decide +kernel
theorem dX7_setWindow_12 : decode cX7_setWindow 12 = .ok (.iload_n 2, 1) := by decide +kernel
theorem dX7_setWindow_13 : decode cX7_setWindow 13 = .ok (.iconst 1, 1) := by decide +kernel
theorem dX7_setWindow_14 : decode cX7_setWindow 14 = .ok (.bipush 10, 2) := by decide +kernel
theorem dX7_setWindow_16 : decode cX7_setWindow 16 = .ok (.invokestatic 94, 3) := by decide +kernel
theorem dX7_setWindow_19 : decode cX7_setWindow 19 = .ok (.ifCond .eq 7, 3) := by decide +kernel
theorem dX7_setWindow_22 : decode cX7_setWindow 22 = .ok (.iconst 0, 1) := by decide +kernel
theorem dX7_setWindow_23 : decode cX7_setWindow 23 = .ok (.goto 4, 3) := by decide +kernel
theorem dX7_setWindow_26 : decode cX7_setWindow 26 = .ok (.iconst 2, 1) := by decide +kernel
theorem dX7_setWindow_27 : decode cX7_setWindow 27 = .ok (.invokevirtual 101, 3) := by decide +kernel
theorem dX7_setWindow_30 : decode cX7_setWindow 30 = .ok (.ifCond .eq 5, 3) := by decide +kernel
theorem dX7_setWindow_33 : decode cX7_setWindow 33 = .ok (.iconst 0, 1) := by decide +kernel
theorem dX7_setWindow_34 : decode cX7_setWindow 34 = .ok (.ireturn, 1) := by decide +kernel
theorem dX7_setWindow_35 : decode cX7_setWindow 35 = .ok (.aload_n 0, 1) := by decide +kernel
theorem dX7_setWindow_36 : decode cX7_setWindow 36 = .ok (.getfield 62, 3) := by decide +kernel
theorem dX7_setWindow_39 : decode cX7_setWindow 39 = .ok (.iload_n 1, 1) := by decide +kernel
theorem dX7_setWindow_40 : decode cX7_setWindow 40 = .ok (.iaload, 1) := by decide +kernel
theorem dX7_setWindow_41 : decode cX7_setWindow 41 = .ok (.istore_n 3, 1) := by decide +kernel
theorem dX7_setWindow_42 : decode cX7_setWindow 42 = .ok (.aload_n 0, 1) := by decide +kernel
theorem dX7_setWindow_43 : decode cX7_setWindow 43 = .ok (.getfield 62, 3) := by decide +kernel
theorem dX7_setWindow_46 : decode cX7_setWindow 46 = .ok (.iload_n 1, 1) := by decide +kernel
theorem dX7_setWindow_47 : decode cX7_setWindow 47 = .ok (.iload_n 2, 1) := by decide +kernel
theorem dX7_setWindow_48 : decode cX7_setWindow 48 = .ok (.iastore, 1) := by decide +kernel
theorem dX7_setWindow_49 : decode cX7_setWindow 49 = .ok (.iload_n 3, 1) := by decide +kernel
theorem dX7_setWindow_50 : decode cX7_setWindow 50 = .ok (.ireturn, 1) := by decide +kernel
theorem dX7_of_0 : decode cX7_of 0 = .ok (.aload_n 0, 1) := by decide +kernel
theorem dX7_of_1 : decode cX7_of 1 = .ok (.iload_n 2, 1) := by decide +kernel
theorem dX7_of_2 : decode cX7_of 2 = .ok (.invokestatic 156, 3) := by decide +kernel
theorem dX7_of_5 : decode cX7_of 5 = .ok (.ifCond .eq 7, 3) := by decide +kernel
theorem dX7_of_8 : decode cX7_of 8 = .ok (.iconst 0, 1) := by decide +kernel
theorem dX7_of_9 : decode cX7_of 9 = .ok (.goto 4, 3) := by decide +kernel
theorem dX7_of_12 : decode cX7_of 12 = .ok (.iconst 1, 1) := by decide +kernel
theorem dX7_of_13 : decode cX7_of 13 = .ok (.invokevirtual 101, 3) := by decide +kernel
theorem dX7_of_16 : decode cX7_of 16 = .ok (.ifCond .eq 7, 3) := by decide +kernel
theorem dX7_of_19 : decode cX7_of 19 = .ok (.iconst 0, 1) := by decide +kernel
theorem dX7_of_20 : decode cX7_of 20 = .ok (.goto 6, 3) := by decide +kernel
theorem dX7_of_23 : decode cX7_of 23 = .ok (.aload_n 1, 1) := by decide +kernel
theorem dX7_of_24 : decode cX7_of 24 = .ok (.iload_n 2, 1) := by decide +kernel
theorem dX7_of_25 : decode cX7_of 25 = .ok (.iaload, 1) := by decide +kernel
theorem dX7_of_26 : decode cX7_of 26 = .ok (.ireturn, 1) := by decide +kernel
theorem dX7_queued_0 : decode cX7_queued 0 = .ok (.aload_n 0, 1) := by decide +kernel
theorem dX7_queued_1 : decode cX7_queued 1 = .ok (.aload_n 0, 1) := by decide +kernel
theorem dX7_queued_2 : decode cX7_queued 2 = .ok (.getfield 44, 3) := by decide +kernel
theorem dX7_queued_5 : decode cX7_queued 5 = .ok (.iload_n 1, 1) := by decide +kernel
theorem dX7_queued_6 : decode cX7_queued 6 = .ok (.invokevirtual 159, 3) := by decide +kernel
theorem dX7_queued_9 : decode cX7_queued 9 = .ok (.ireturn, 1) := by decide +kernel
theorem dX7_underWay_0 : decode cX7_underWay 0 = .ok (.aload_n 0, 1) := by decide +kernel
theorem dX7_underWay_1 : decode cX7_underWay 1 = .ok (.aload_n 0, 1) := by decide +kernel
theorem dX7_underWay_2 : decode cX7_underWay 2 = .ok (.getfield 50, 3) := by decide +kernel
theorem dX7_underWay_5 : decode cX7_underWay 5 = .ok (.iload_n 1, 1) := by decide +kernel
theorem dX7_underWay_6 : decode cX7_underWay 6 = .ok (.invokevirtual 159, 3) := by decide +kernel
theorem dX7_underWay_9 : decode cX7_underWay 9 = .ok (.ireturn, 1) := by decide +kernel
theorem dX7_tokens_0 : decode cX7_tokens 0 = .ok (.aload_n 0, 1) := by decide +kernel
theorem dX7_tokens_1 : decode cX7_tokens 1 = .ok (.aload_n 0, 1) := by decide +kernel
theorem dX7_tokens_2 : decode cX7_tokens 2 = .ok (.getfield 59, 3) := by decide +kernel
theorem dX7_tokens_5 : decode cX7_tokens 5 = .ok (.iload_n 1, 1) := by decide +kernel
theorem dX7_tokens_6 : decode cX7_tokens 6 = .ok (.invokevirtual 159, 3) := by decide +kernel
theorem dX7_tokens_9 : decode cX7_tokens 9 = .ok (.ireturn, 1) := by decide +kernel
theorem dX7_becomes_0 : decode cX7_becomes 0 = .ok (.iload_n 1, 1) := by decide +kernel
theorem dX7_becomes_1 : decode cX7_becomes 1 = .ok (.bipush 10, 2) := by decide +kernel
theorem dX7_becomes_3 : decode cX7_becomes 3 = .ok (.idiv, 1) := by decide +kernel
theorem dX7_becomes_4 : decode cX7_becomes 4 = .ok (.istore_n 3, 1) := by decide +kernel
theorem dX7_becomes_5 : decode cX7_becomes 5 = .ok (.aload_n 0, 1) := by decide +kernel
theorem dX7_becomes_6 : decode cX7_becomes 6 = .ok (.getfield 19, 3) := by decide +kernel
theorem dX7_becomes_9 : decode cX7_becomes 9 = .ok (.iload_n 3, 1) := by decide +kernel
theorem dX7_becomes_10 : decode cX7_becomes 10 = .ok (.iaload, 1) := by decide +kernel
theorem dX7_becomes_11 : decode cX7_becomes 11 = .ok (.iconst 3, 1) := by decide +kernel
theorem dX7_becomes_12 : decode cX7_becomes 12 = .ok (.irem, 1) := by decide +kernel
theorem dX7_becomes_13 : decode cX7_becomes 13 = .ok (.istore 4, 2) := by decide +kernel
theorem dX7_becomes_15 : decode cX7_becomes 15 = .ok (.iload_n 2, 1) := by decide +kernel
theorem dX7_becomes_16 : decode cX7_becomes 16 = .ok (.ifCond .ne 27, 3) := by decide +kernel
theorem dX7_becomes_19 : decode cX7_becomes 19 = .ok (.aload_n 0, 1) := by decide +kernel
theorem dX7_becomes_20 : decode cX7_becomes 20 = .ok (.getfield 41, 3) := by decide +kernel
theorem dX7_becomes_23 : decode cX7_becomes 23 = .ok (.iload_n 1, 1) := by decide +kernel
theorem dX7_becomes_24 : decode cX7_becomes 24 = .ok (.iconst 1, 1) := by decide +kernel
theorem dX7_becomes_25 : decode cX7_becomes 25 = .ok (.bastore, 1) := by decide +kernel
theorem dX7_becomes_26 : decode cX7_becomes 26 = .ok (.aload_n 0, 1) := by decide +kernel
theorem dX7_becomes_27 : decode cX7_becomes 27 = .ok (.iload_n 3, 1) := by decide +kernel
theorem dX7_becomes_28 : decode cX7_becomes 28 = .ok (.invokevirtual 140, 3) := by decide +kernel
theorem dX7_becomes_31 : decode cX7_becomes 31 = .ok (.ifCond .ne 87, 3) := by decide +kernel
theorem dX7_becomes_34 : decode cX7_becomes 34 = .ok (.aload_n 0, 1) := by decide +kernel
theorem dX7_becomes_35 : decode cX7_becomes 35 = .ok (.iload_n 3, 1) := by decide +kernel
theorem dX7_becomes_36 : decode cX7_becomes 36 = .ok (.iconst 1, 1) := by decide +kernel
theorem dX7_becomes_37 : decode cX7_becomes 37 = .ok (.invokevirtual 149, 3) := by decide +kernel
theorem dX7_becomes_40 : decode cX7_becomes 40 = .ok (.goto 78, 3) := by decide +kernel
theorem dX7_becomes_43 : decode cX7_becomes 43 = .ok (.iload_n 2, 1) := by decide +kernel
theorem dX7_becomes_44 : decode cX7_becomes 44 = .ok (.iconst 1, 1) := by decide +kernel
theorem dX7_becomes_45 : decode cX7_becomes 45 = .ok (.if_icmp .ne 47, 3) := by decide +kernel
theorem dX7_becomes_48 : decode cX7_becomes 48 = .ok (.aload_n 0, 1) := by decide +kernel
theorem dX7_becomes_49 : decode cX7_becomes 49 = .ok (.getfield 34, 3) := by decide +kernel
theorem dX7_becomes_52 : decode cX7_becomes 52 = .ok (.iload_n 1, 1) := by decide +kernel
theorem dX7_becomes_53 : decode cX7_becomes 53 = .ok (.iaload, 1) := by decide +kernel
theorem dX7_becomes_54 : decode cX7_becomes 54 = .ok (.iconst 3, 1) := by decide +kernel
theorem dX7_becomes_55 : decode cX7_becomes 55 = .ok (.if_icmp .ge 37, 3) := by decide +kernel
theorem dX7_becomes_58 : decode cX7_becomes 58 = .ok (.aload_n 0, 1) := by decide +kernel
theorem dX7_becomes_59 : decode cX7_becomes 59 = .ok (.getfield 34, 3) := by decide +kernel
theorem dX7_becomes_62 : decode cX7_becomes 62 = .ok (.iload_n 1, 1) := by decide +kernel
theorem dX7_becomes_63 : decode cX7_becomes 63 = .ok (.dup2, 1) := by decide +kernel
theorem dX7_becomes_64 : decode cX7_becomes 64 = .ok (.iaload, 1) := by decide +kernel
theorem dX7_becomes_65 : decode cX7_becomes 65 = .ok (.iconst 1, 1) := by decide +kernel
theorem dX7_becomes_66 : decode cX7_becomes 66 = .ok (.iadd, 1) := by decide +kernel
theorem dX7_becomes_67 : decode cX7_becomes 67 = .ok (.iastore, 1) := by decide +kernel
theorem dX7_becomes_68 : decode cX7_becomes 68 = .ok (.aload_n 0, 1) := by decide +kernel
theorem dX7_becomes_69 : decode cX7_becomes 69 = .ok (.iload 4, 2) := by decide +kernel
theorem dX7_becomes_71 : decode cX7_becomes 71 = .ok (.iload_n 1, 1) := by decide +kernel
theorem dX7_becomes_72 : decode cX7_becomes 72 = .ok (.aload_n 0, 1) := by decide +kernel
theorem dX7_becomes_73 : decode cX7_becomes 73 = .ok (.getfield 127, 3) := by decide +kernel
theorem dX7_becomes_76 : decode cX7_becomes 76 = .ok (.iconst 1, 1) := by decide +kernel
theorem dX7_becomes_77 : decode cX7_becomes 77 = .ok (.aload_n 0, 1) := by decide +kernel
theorem dX7_becomes_78 : decode cX7_becomes 78 = .ok (.getfield 34, 3) := by decide +kernel
theorem dX7_becomes_81 : decode cX7_becomes 81 = .ok (.iload_n 1, 1) := by decide +kernel
theorem dX7_becomes_82 : decode cX7_becomes 82 = .ok (.iaload, 1) := by decide +kernel
theorem dX7_becomes_83 : decode cX7_becomes 83 = .ok (.ishl, 1) := by decide +kernel
theorem dX7_becomes_84 : decode cX7_becomes 84 = .ok (.iadd, 1) := by decide +kernel
theorem dX7_becomes_85 : decode cX7_becomes 85 = .ok (.iconst 0, 1) := by decide +kernel
theorem dX7_becomes_86 : decode cX7_becomes 86 = .ok (.invokevirtual 133, 3) := by decide +kernel
theorem dX7_becomes_89 : decode cX7_becomes 89 = .ok (.goto 29, 3) := by decide +kernel
theorem dX7_becomes_92 : decode cX7_becomes 92 = .ok (.iload_n 2, 1) := by decide +kernel
theorem dX7_becomes_93 : decode cX7_becomes 93 = .ok (.iconst 2, 1) := by decide +kernel
theorem dX7_becomes_94 : decode cX7_becomes 94 = .ok (.if_icmp .ne 18, 3) := by decide +kernel
theorem dX7_becomes_97 : decode cX7_becomes 97 = .ok (.aload_n 0, 1) := by decide +kernel
theorem dX7_becomes_98 : decode cX7_becomes 98 = .ok (.iload 4, 2) := by decide +kernel
theorem dX7_becomes_100 : decode cX7_becomes 100 = .ok (.iload_n 1, 1) := by decide +kernel
theorem dX7_becomes_101 : decode cX7_becomes 101 = .ok (.aload_n 0, 1) := by decide +kernel
theorem dX7_becomes_102 : decode cX7_becomes 102 = .ok (.getfield 127, 3) := by decide +kernel
theorem dX7_becomes_105 : decode cX7_becomes 105 = .ok (.iconst 1, 1) := by decide +kernel
theorem dX7_becomes_106 : decode cX7_becomes 106 = .ok (.invokevirtual 133, 3) := by decide +kernel
theorem dX7_becomes_109 : decode cX7_becomes 109 = .ok (.goto 9, 3) := by decide +kernel
theorem dX7_becomes_112 : decode cX7_becomes 112 = .ok (.aload_n 0, 1) := by decide +kernel
theorem dX7_becomes_113 : decode cX7_becomes 113 = .ok (.iload_n 3, 1) := by decide +kernel
theorem dX7_becomes_114 : decode cX7_becomes 114 = .ok (.iconst 2, 1) := by decide +kernel
theorem dX7_becomes_115 : decode cX7_becomes 115 = .ok (.invokevirtual 149, 3) := by decide +kernel
theorem dX7_becomes_118 : decode cX7_becomes 118 = .ok (.return_, 1) := by decide +kernel
theorem dX7_acknowledge_0 : decode cX7_acknowledge 0 = .ok (.iload_n 1, 1) := by decide +kernel
theorem dX7_acknowledge_1 : decode cX7_acknowledge 1 = .ok (.invokestatic 156, 3) := by decide +kernel
theorem dX7_acknowledge_4 : decode cX7_acknowledge 4 = .ok (.istore_n 3, 1) := by decide +kernel
theorem dX7_acknowledge_5 : decode cX7_acknowledge 5 = .ok (.aload_n 0, 1) := by decide +kernel
theorem dX7_acknowledge_6 : decode cX7_acknowledge 6 = .ok (.iload_n 3, 1) := by decide +kernel
theorem dX7_acknowledge_7 : decode cX7_acknowledge 7 = .ok (.ifCond .ne 7, 3) := by decide +kernel
theorem dX7_acknowledge_10 : decode cX7_acknowledge 10 = .ok (.iconst 1, 1) := by decide +kernel
theorem dX7_acknowledge_11 : decode cX7_acknowledge 11 = .ok (.goto 30, 3) := by decide +kernel
theorem dX7_acknowledge_14 : decode cX7_acknowledge 14 = .ok (.iload_n 2, 1) := by decide +kernel
theorem dX7_acknowledge_15 : decode cX7_acknowledge 15 = .ok (.iconst 0, 1) := by decide +kernel
theorem dX7_acknowledge_16 : decode cX7_acknowledge 16 = .ok (.iconst 3, 1) := by decide +kernel
theorem dX7_acknowledge_17 : decode cX7_acknowledge 17 = .ok (.invokestatic 94, 3) := by decide +kernel
theorem dX7_acknowledge_20 : decode cX7_acknowledge 20 = .ok (.ifCond .ne 7, 3) := by decide +kernel
theorem dX7_acknowledge_23 : decode cX7_acknowledge 23 = .ok (.iconst 2, 1) := by decide +kernel
theorem dX7_acknowledge_24 : decode cX7_acknowledge 24 = .ok (.goto 17, 3) := by decide +kernel
theorem dX7_acknowledge_27 : decode cX7_acknowledge 27 = .ok (.aload_n 0, 1) := by decide +kernel
theorem dX7_acknowledge_28 : decode cX7_acknowledge 28 = .ok (.getfield 50, 3) := by decide +kernel
theorem dX7_acknowledge_31 : decode cX7_acknowledge 31 = .ok (.iload_n 1, 1) := by decide +kernel
theorem dX7_acknowledge_32 : decode cX7_acknowledge 32 = .ok (.iaload, 1) := by decide +kernel
theorem dX7_acknowledge_33 : decode cX7_acknowledge 33 = .ok (.ifCond .ne 7, 3) := by decide +kernel
theorem dX7_acknowledge_36 : decode cX7_acknowledge 36 = .ok (.iconst 3, 1) := by decide +kernel
theorem dX7_acknowledge_37 : decode cX7_acknowledge 37 = .ok (.goto 4, 3) := by decide +kernel
theorem dX7_acknowledge_40 : decode cX7_acknowledge 40 = .ok (.iconst 0, 1) := by decide +kernel
theorem dX7_acknowledge_41 : decode cX7_acknowledge 41 = .ok (.invokevirtual 101, 3) := by decide +kernel
theorem dX7_acknowledge_44 : decode cX7_acknowledge 44 = .ok (.ifCond .eq 5, 3) := by decide +kernel
theorem dX7_acknowledge_47 : decode cX7_acknowledge 47 = .ok (.iconst 0, 1) := by decide +kernel
theorem dX7_acknowledge_48 : decode cX7_acknowledge 48 = .ok (.ireturn, 1) := by decide +kernel
theorem dX7_acknowledge_49 : decode cX7_acknowledge 49 = .ok (.aload_n 0, 1) := by decide +kernel
theorem dX7_acknowledge_50 : decode cX7_acknowledge 50 = .ok (.getfield 53, 3) := by decide +kernel
theorem dX7_acknowledge_53 : decode cX7_acknowledge 53 = .ok (.sipush 200, 3) := by decide +kernel
theorem dX7_acknowledge_56 : decode cX7_acknowledge 56 = .ok (.iload_n 1, 1) := by decide +kernel
theorem dX7_acknowledge_57 : decode cX7_acknowledge 57 = .ok (.imul, 1) := by decide +kernel
theorem dX7_acknowledge_58 : decode cX7_acknowledge 58 = .ok (.iaload, 1) := by decide +kernel
theorem dX7_acknowledge_59 : decode cX7_acknowledge 59 = .ok (.istore 4, 2) := by decide +kernel
theorem dX7_acknowledge_61 : decode cX7_acknowledge 61 = .ok (.aload_n 0, 1) := by decide +kernel
theorem dX7_acknowledge_62 : decode cX7_acknowledge 62 = .ok (.getfield 50, 3) := by decide +kernel
theorem dX7_acknowledge_65 : decode cX7_acknowledge 65 = .ok (.iload_n 1, 1) := by decide +kernel
theorem dX7_acknowledge_66 : decode cX7_acknowledge 66 = .ok (.dup2, 1) := by decide +kernel
theorem dX7_acknowledge_67 : decode cX7_acknowledge 67 = .ok (.iaload, 1) := by decide +kernel
theorem dX7_acknowledge_68 : decode cX7_acknowledge 68 = .ok (.iconst 1, 1) := by decide +kernel
theorem dX7_acknowledge_69 : decode cX7_acknowledge 69 = .ok (.isub, 1) := by decide +kernel
theorem dX7_acknowledge_70 : decode cX7_acknowledge 70 = .ok (.iastore, 1) := by decide +kernel
theorem dX7_acknowledge_71 : decode cX7_acknowledge 71 = .ok (.sipush 200, 3) := by decide +kernel
theorem dX7_acknowledge_74 : decode cX7_acknowledge 74 = .ok (.iload_n 1, 1) := by decide +kernel
theorem dX7_acknowledge_75 : decode cX7_acknowledge 75 = .ok (.imul, 1) := by decide +kernel
theorem dX7_acknowledge_76 : decode cX7_acknowledge 76 = .ok (.istore 5, 2) := by decide +kernel
theorem dX7_acknowledge_78 : decode cX7_acknowledge 78 = .ok (.iload 5, 2) := by decide +kernel
theorem dX7_acknowledge_80 : decode cX7_acknowledge 80 = .ok (.sipush 200, 3) := by decide +kernel
theorem dX7_acknowledge_83 : decode cX7_acknowledge 83 = .ok (.iload_n 1, 1) := by decide +kernel
theorem dX7_acknowledge_84 : decode cX7_acknowledge 84 = .ok (.imul, 1) := by decide +kernel
theorem dX7_acknowledge_85 : decode cX7_acknowledge 85 = .ok (.aload_n 0, 1) := by decide +kernel
theorem dX7_acknowledge_86 : decode cX7_acknowledge 86 = .ok (.getfield 50, 3) := by decide +kernel
theorem dX7_acknowledge_89 : decode cX7_acknowledge 89 = .ok (.iload_n 1, 1) := by decide +kernel
theorem dX7_acknowledge_90 : decode cX7_acknowledge 90 = .ok (.iaload, 1) := by decide +kernel
theorem dX7_acknowledge_91 : decode cX7_acknowledge 91 = .ok (.iadd, 1) := by decide +kernel
theorem dX7_acknowledge_92 : decode cX7_acknowledge 92 = .ok (.if_icmp .ge 25, 3) := by decide +kernel
theorem dX7_acknowledge_95 : decode cX7_acknowledge 95 = .ok (.aload_n 0, 1) := by decide +kernel
theorem dX7_acknowledge_96 : decode cX7_acknowledge 96 = .ok (.getfield 53, 3) := by decide +kernel
theorem dX7_acknowledge_99 : decode cX7_acknowledge 99 = .ok (.iload 5, 2) := by decide +kernel
theorem dX7_acknowledge_101 : decode cX7_acknowledge 101 = .ok (.aload_n 0, 1) := by decide +kernel
theorem dX7_acknowledge_102 : decode cX7_acknowledge 102 = .ok (.getfield 53, 3) := by decide +kernel
theorem dX7_acknowledge_105 : decode cX7_acknowledge 105 = .ok (.iload 5, 2) := by decide +kernel
theorem dX7_acknowledge_107 : decode cX7_acknowledge 107 = .ok (.iconst 1, 1) := by decide +kernel
theorem dX7_acknowledge_108 : decode cX7_acknowledge 108 = .ok (.iadd, 1) := by decide +kernel
theorem dX7_acknowledge_109 : decode cX7_acknowledge 109 = .ok (.iaload, 1) := by decide +kernel
theorem dX7_acknowledge_110 : decode cX7_acknowledge 110 = .ok (.iastore, 1) := by decide +kernel
theorem dX7_acknowledge_111 : decode cX7_acknowledge 111 = .ok (.iinc 5 1, 3) := by decide +kernel
theorem dX7_acknowledge_114 : decode cX7_acknowledge 114 = .ok (.goto (-36), 3) := by decide +kernel
theorem dX7_acknowledge_117 : decode cX7_acknowledge 117 = .ok (.aload_n 0, 1) := by decide +kernel
theorem dX7_acknowledge_118 : decode cX7_acknowledge 118 = .ok (.getfield 25, 3) := by decide +kernel
theorem dX7_acknowledge_121 : decode cX7_acknowledge 121 = .ok (.iload 4, 2) := by decide +kernel
theorem dX7_acknowledge_123 : decode cX7_acknowledge 123 = .ok (.bipush 10, 2) := by decide +kernel
theorem dX7_acknowledge_125 : decode cX7_acknowledge 125 = .ok (.idiv, 1) := by decide +kernel
theorem dX7_acknowledge_126 : decode cX7_acknowledge 126 = .ok (.iaload, 1) := by decide +kernel
theorem dX7_acknowledge_127 : decode cX7_acknowledge 127 = .ok (.ifCond .ne 10, 3) := by decide +kernel
theorem dX7_acknowledge_130 : decode cX7_acknowledge 130 = .ok (.aload_n 0, 1) := by decide +kernel
theorem dX7_acknowledge_131 : decode cX7_acknowledge 131 = .ok (.iload 4, 2) := by decide +kernel
theorem dX7_acknowledge_133 : decode cX7_acknowledge 133 = .ok (.iload_n 2, 1) := by decide +kernel
theorem dX7_acknowledge_134 : decode cX7_acknowledge 134 = .ok (.invokevirtual 163, 3) := by decide +kernel
theorem dX7_acknowledge_137 : decode cX7_acknowledge 137 = .ok (.iload 4, 2) := by decide +kernel
theorem dX7_acknowledge_139 : decode cX7_acknowledge 139 = .ok (.ireturn, 1) := by decide +kernel
theorem dX7_alert_0 : decode cX7_alert 0 = .ok (.aload_n 0, 1) := by decide +kernel
theorem dX7_alert_1 : decode cX7_alert 1 = .ok (.iload_n 1, 1) := by decide +kernel
theorem dX7_alert_2 : decode cX7_alert 2 = .ok (.iconst 0, 1) := by decide +kernel
theorem dX7_alert_3 : decode cX7_alert 3 = .ok (.bipush 8, 2) := by decide +kernel
theorem dX7_alert_5 : decode cX7_alert 5 = .ok (.invokestatic 94, 3) := by decide +kernel
theorem dX7_alert_8 : decode cX7_alert 8 = .ok (.ifCond .eq 7, 3) := by decide +kernel
theorem dX7_alert_11 : decode cX7_alert 11 = .ok (.iconst 0, 1) := by decide +kernel
theorem dX7_alert_12 : decode cX7_alert 12 = .ok (.goto 4, 3) := by decide +kernel
theorem dX7_alert_15 : decode cX7_alert 15 = .ok (.iconst 1, 1) := by decide +kernel
theorem dX7_alert_16 : decode cX7_alert 16 = .ok (.invokevirtual 101, 3) := by decide +kernel
theorem dX7_alert_19 : decode cX7_alert 19 = .ok (.ifCond .eq 5, 3) := by decide +kernel
theorem dX7_alert_22 : decode cX7_alert 22 = .ok (.iconst 0, 1) := by decide +kernel
theorem dX7_alert_23 : decode cX7_alert 23 = .ok (.ireturn, 1) := by decide +kernel
theorem dX7_alert_24 : decode cX7_alert 24 = .ok (.iload_n 1, 1) := by decide +kernel
theorem dX7_alert_25 : decode cX7_alert 25 = .ok (.iconst 3, 1) := by decide +kernel
theorem dX7_alert_26 : decode cX7_alert 26 = .ok (.irem, 1) := by decide +kernel
theorem dX7_alert_27 : decode cX7_alert 27 = .ok (.istore_n 2, 1) := by decide +kernel
theorem dX7_alert_28 : decode cX7_alert 28 = .ok (.iconst 0, 1) := by decide +kernel
theorem dX7_alert_29 : decode cX7_alert 29 = .ok (.istore_n 3, 1) := by decide +kernel
theorem dX7_alert_30 : decode cX7_alert 30 = .ok (.sipush 200, 3) := by decide +kernel
theorem dX7_alert_33 : decode cX7_alert 33 = .ok (.iload_n 2, 1) := by decide +kernel
theorem dX7_alert_34 : decode cX7_alert 34 = .ok (.imul, 1) := by decide +kernel
theorem dX7_alert_35 : decode cX7_alert 35 = .ok (.istore 4, 2) := by decide +kernel
theorem dX7_alert_37 : decode cX7_alert 37 = .ok (.iload 4, 2) := by decide +kernel
theorem dX7_alert_39 : decode cX7_alert 39 = .ok (.sipush 200, 3) := by decide +kernel
theorem dX7_alert_42 : decode cX7_alert 42 = .ok (.iload_n 2, 1) := by decide +kernel
theorem dX7_alert_43 : decode cX7_alert 43 = .ok (.imul, 1) := by decide +kernel
theorem dX7_alert_44 : decode cX7_alert 44 = .ok (.aload_n 0, 1) := by decide +kernel
theorem dX7_alert_45 : decode cX7_alert 45 = .ok (.getfield 44, 3) := by decide +kernel
theorem dX7_alert_48 : decode cX7_alert 48 = .ok (.iload_n 2, 1) := by decide +kernel
theorem dX7_alert_49 : decode cX7_alert 49 = .ok (.iaload, 1) := by decide +kernel
theorem dX7_alert_50 : decode cX7_alert 50 = .ok (.iadd, 1) := by decide +kernel
theorem dX7_alert_51 : decode cX7_alert 51 = .ok (.if_icmp .ge 89, 3) := by decide +kernel
theorem dX7_alert_54 : decode cX7_alert 54 = .ok (.aload_n 0, 1) := by decide +kernel
theorem dX7_alert_55 : decode cX7_alert 55 = .ok (.getfield 47, 3) := by decide +kernel
theorem dX7_alert_58 : decode cX7_alert 58 = .ok (.iload 4, 2) := by decide +kernel
theorem dX7_alert_60 : decode cX7_alert 60 = .ok (.iaload, 1) := by decide +kernel
theorem dX7_alert_61 : decode cX7_alert 61 = .ok (.istore 5, 2) := by decide +kernel
theorem dX7_alert_63 : decode cX7_alert 63 = .ok (.aload_n 0, 1) := by decide +kernel
theorem dX7_alert_64 : decode cX7_alert 64 = .ok (.getfield 37, 3) := by decide +kernel
theorem dX7_alert_67 : decode cX7_alert 67 = .ok (.iload 5, 2) := by decide +kernel
theorem dX7_alert_69 : decode cX7_alert 69 = .ok (.baload, 1) := by decide +kernel
theorem dX7_alert_70 : decode cX7_alert 70 = .ok (.ifCond .eq 21, 3) := by decide +kernel
theorem dX7_alert_73 : decode cX7_alert 73 = .ok (.aload_n 0, 1) := by decide +kernel
theorem dX7_alert_74 : decode cX7_alert 74 = .ok (.getfield 19, 3) := by decide +kernel
theorem dX7_alert_77 : decode cX7_alert 77 = .ok (.iload 5, 2) := by decide +kernel
theorem dX7_alert_79 : decode cX7_alert 79 = .ok (.bipush 10, 2) := by decide +kernel
theorem dX7_alert_81 : decode cX7_alert 81 = .ok (.idiv, 1) := by decide +kernel
theorem dX7_alert_82 : decode cX7_alert 82 = .ok (.iaload, 1) := by decide +kernel
theorem dX7_alert_83 : decode cX7_alert 83 = .ok (.iload_n 1, 1) := by decide +kernel
theorem dX7_alert_84 : decode cX7_alert 84 = .ok (.if_icmp .ne 7, 3) := by decide +kernel
theorem dX7_alert_87 : decode cX7_alert 87 = .ok (.iconst 1, 1) := by decide +kernel
theorem dX7_alert_88 : decode cX7_alert 88 = .ok (.goto 4, 3) := by decide +kernel
theorem dX7_alert_91 : decode cX7_alert 91 = .ok (.iconst 0, 1) := by decide +kernel
theorem dX7_alert_92 : decode cX7_alert 92 = .ok (.istore 6, 2) := by decide +kernel
theorem dX7_alert_94 : decode cX7_alert 94 = .ok (.iload_n 3, 1) := by decide +kernel
theorem dX7_alert_95 : decode cX7_alert 95 = .ok (.iload 6, 2) := by decide +kernel
theorem dX7_alert_97 : decode cX7_alert 97 = .ok (.ifCond .eq 7, 3) := by decide +kernel
theorem dX7_alert_100 : decode cX7_alert 100 = .ok (.iconst 1, 1) := by decide +kernel
theorem dX7_alert_101 : decode cX7_alert 101 = .ok (.goto 4, 3) := by decide +kernel
theorem dX7_alert_104 : decode cX7_alert 104 = .ok (.iconst 0, 1) := by decide +kernel
theorem dX7_alert_105 : decode cX7_alert 105 = .ok (.iadd, 1) := by decide +kernel
theorem dX7_alert_106 : decode cX7_alert 106 = .ok (.istore_n 3, 1) := by decide +kernel
theorem dX7_alert_107 : decode cX7_alert 107 = .ok (.aload_n 0, 1) := by decide +kernel
theorem dX7_alert_108 : decode cX7_alert 108 = .ok (.getfield 37, 3) := by decide +kernel
theorem dX7_alert_111 : decode cX7_alert 111 = .ok (.iload 5, 2) := by decide +kernel
theorem dX7_alert_113 : decode cX7_alert 113 = .ok (.aload_n 0, 1) := by decide +kernel
theorem dX7_alert_114 : decode cX7_alert 114 = .ok (.getfield 37, 3) := by decide +kernel
theorem dX7_alert_117 : decode cX7_alert 117 = .ok (.iload 5, 2) := by decide +kernel
theorem dX7_alert_119 : decode cX7_alert 119 = .ok (.baload, 1) := by decide +kernel
theorem dX7_alert_120 : decode cX7_alert 120 = .ok (.ifCond .eq 12, 3) := by decide +kernel
theorem dX7_alert_123 : decode cX7_alert 123 = .ok (.iload 6, 2) := by decide +kernel
theorem dX7_alert_125 : decode cX7_alert 125 = .ok (.ifCond .ne 7, 3) := by decide +kernel
theorem dX7_alert_128 : decode cX7_alert 128 = .ok (.iconst 1, 1) := by decide +kernel
theorem dX7_alert_129 : decode cX7_alert 129 = .ok (.goto 4, 3) := by decide +kernel
theorem dX7_alert_132 : decode cX7_alert 132 = .ok (.iconst 0, 1) := by decide +kernel
theorem dX7_alert_133 : decode cX7_alert 133 = .ok (.bastore, 1) := by decide +kernel
theorem dX7_alert_134 : decode cX7_alert 134 = .ok (.iinc 4 1, 3) := by decide +kernel
theorem dX7_alert_137 : decode cX7_alert 137 = .ok (.goto (-100), 3) := by decide +kernel
theorem dX7_alert_140 : decode cX7_alert 140 = .ok (.iload_n 3, 1) := by decide +kernel
theorem dX7_alert_141 : decode cX7_alert 141 = .ok (.ireturn, 1) := by decide +kernel
theorem dX7_setKeyword_0 : decode cX7_setKeyword 0 = .ok (.aload_n 0, 1) := by decide +kernel
theorem dX7_setKeyword_1 : decode cX7_setKeyword 1 = .ok (.iload_n 1, 1) := by decide +kernel
theorem dX7_setKeyword_2 : decode cX7_setKeyword 2 = .ok (.iconst 1, 1) := by decide +kernel
theorem dX7_setKeyword_3 : decode cX7_setKeyword 3 = .ok (.iconst 4, 1) := by decide +kernel
theorem dX7_setKeyword_4 : decode cX7_setKeyword 4 = .ok (.invokestatic 94, 3) := by decide +kernel
theorem dX7_setKeyword_7 : decode cX7_setKeyword 7 = .ok (.ifCond .eq 18, 3) := by decide +kernel
theorem dX7_setKeyword_10 : decode cX7_setKeyword 10 = .ok (.iload_n 2, 1) := by decide +kernel
theorem dX7_setKeyword_11 : decode cX7_setKeyword 11 = .ok (.iconst (-1), 1) := by decide +kernel
theorem dX7_setKeyword_12 : decode cX7_setKeyword 12 = .ok (.sipush 999, 3) := by decide +kernel
theorem dX7_setKeyword_15 : decode cX7_setKeyword 15 = .ok (.invokestatic 94, 3) := by decide +kernel
theorem dX7_setKeyword_18 : decode cX7_setKeyword 18 = .ok (.ifCond .eq 7, 3) := by decide +kernel
theorem dX7_setKeyword_21 : decode cX7_setKeyword 21 = .ok (.iconst 0, 1) := by decide +kernel
theorem dX7_setKeyword_22 : decode cX7_setKeyword 22 = .ok (.goto 4, 3) := by decide +kernel
theorem dX7_setKeyword_25 : decode cX7_setKeyword 25 = .ok (.iconst 1, 1) := by decide +kernel
theorem dX7_setKeyword_26 : decode cX7_setKeyword 26 = .ok (.invokevirtual 101, 3) := by decide +kernel
theorem dX7_setKeyword_29 : decode cX7_setKeyword 29 = .ok (.ifCond .ne 49, 3) := by decide +kernel
theorem dX7_setKeyword_32 : decode cX7_setKeyword 32 = .ok (.iconst 1, 1) := by decide +kernel
theorem dX7_setKeyword_33 : decode cX7_setKeyword 33 = .ok (.istore_n 3, 1) := by decide +kernel
theorem dX7_setKeyword_34 : decode cX7_setKeyword 34 = .ok (.iload_n 3, 1) := by decide +kernel
theorem dX7_setKeyword_35 : decode cX7_setKeyword 35 = .ok (.iconst 5, 1) := by decide +kernel
theorem dX7_setKeyword_36 : decode cX7_setKeyword 36 = .ok (.if_icmp .ge 35, 3) := by decide +kernel
theorem dX7_setKeyword_39 : decode cX7_setKeyword 39 = .ok (.aload_n 0, 1) := by decide +kernel
theorem dX7_setKeyword_40 : decode cX7_setKeyword 40 = .ok (.getfield 65, 3) := by decide +kernel
theorem dX7_setKeyword_43 : decode cX7_setKeyword 43 = .ok (.iload_n 3, 1) := by decide +kernel
theorem dX7_setKeyword_44 : decode cX7_setKeyword 44 = .ok (.aload_n 0, 1) := by decide +kernel
theorem dX7_setKeyword_45 : decode cX7_setKeyword 45 = .ok (.getfield 65, 3) := by decide +kernel
theorem dX7_setKeyword_48 : decode cX7_setKeyword 48 = .ok (.iload_n 3, 1) := by decide +kernel
theorem dX7_setKeyword_49 : decode cX7_setKeyword 49 = .ok (.iaload, 1) := by decide +kernel
theorem dX7_setKeyword_50 : decode cX7_setKeyword 50 = .ok (.iload_n 2, 1) := by decide +kernel
theorem dX7_setKeyword_51 : decode cX7_setKeyword 51 = .ok (.if_icmp .ne 7, 3) := by decide +kernel
theorem dX7_setKeyword_54 : decode cX7_setKeyword 54 = .ok (.iconst (-1), 1) := by decide +kernel
theorem dX7_setKeyword_55 : decode cX7_setKeyword 55 = .ok (.goto 9, 3) := by decide +kernel
theorem dX7_setKeyword_58 : decode cX7_setKeyword 58 = .ok (.aload_n 0, 1) := by decide +kernel
theorem dX7_setKeyword_59 : decode cX7_setKeyword 59 = .ok (.getfield 65, 3) := by decide +kernel
theorem dX7_setKeyword_62 : decode cX7_setKeyword 62 = .ok (.iload_n 3, 1) := by decide +kernel
theorem dX7_setKeyword_63 : decode cX7_setKeyword 63 = .ok (.iaload, 1) := by decide +kernel
theorem dX7_setKeyword_64 : decode cX7_setKeyword 64 = .ok (.iastore, 1) := by decide +kernel
theorem dX7_setKeyword_65 : decode cX7_setKeyword 65 = .ok (.iinc 3 1, 3) := by decide +kernel
theorem dX7_setKeyword_68 : decode cX7_setKeyword 68 = .ok (.goto (-34), 3) := by decide +kernel
theorem dX7_setKeyword_71 : decode cX7_setKeyword 71 = .ok (.aload_n 0, 1) := by decide +kernel
theorem dX7_setKeyword_72 : decode cX7_setKeyword 72 = .ok (.getfield 65, 3) := by decide +kernel
theorem dX7_setKeyword_75 : decode cX7_setKeyword 75 = .ok (.iload_n 1, 1) := by decide +kernel
theorem dX7_setKeyword_76 : decode cX7_setKeyword 76 = .ok (.iload_n 2, 1) := by decide +kernel
theorem dX7_setKeyword_77 : decode cX7_setKeyword 77 = .ok (.iastore, 1) := by decide +kernel
theorem dX7_setKeyword_78 : decode cX7_setKeyword 78 = .ok (.return_, 1) := by decide +kernel
theorem dX7_come_0 : decode cX7_come 0 = .ok (.aload_n 0, 1) := by decide +kernel
theorem dX7_come_1 : decode cX7_come 1 = .ok (.iload_n 1, 1) := by decide +kernel
theorem dX7_come_2 : decode cX7_come 2 = .ok (.iconst 0, 1) := by decide +kernel
theorem dX7_come_3 : decode cX7_come 3 = .ok (.bipush 8, 2) := by decide +kernel
theorem dX7_come_5 : decode cX7_come 5 = .ok (.invokestatic 94, 3) := by decide +kernel
theorem dX7_come_8 : decode cX7_come 8 = .ok (.ifCond .eq 18, 3) := by decide +kernel
theorem dX7_come_11 : decode cX7_come 11 = .ok (.iload_n 2, 1) := by decide +kernel
theorem dX7_come_12 : decode cX7_come 12 = .ok (.iconst 0, 1) := by decide +kernel
theorem dX7_come_13 : decode cX7_come 13 = .ok (.sipush 999, 3) := by decide +kernel
theorem dX7_come_16 : decode cX7_come 16 = .ok (.invokestatic 94, 3) := by decide +kernel
theorem dX7_come_19 : decode cX7_come 19 = .ok (.ifCond .eq 7, 3) := by decide +kernel
theorem dX7_come_22 : decode cX7_come 22 = .ok (.iconst 0, 1) := by decide +kernel
theorem dX7_come_23 : decode cX7_come 23 = .ok (.goto 4, 3) := by decide +kernel
theorem dX7_come_26 : decode cX7_come 26 = .ok (.iconst 1, 1) := by decide +kernel
theorem dX7_come_27 : decode cX7_come 27 = .ok (.invokevirtual 101, 3) := by decide +kernel
theorem dX7_come_30 : decode cX7_come 30 = .ok (.ifCond .eq 5, 3) := by decide +kernel
theorem dX7_come_33 : decode cX7_come 33 = .ok (.iconst 0, 1) := by decide +kernel
theorem dX7_come_34 : decode cX7_come 34 = .ok (.ireturn, 1) := by decide +kernel
theorem dX7_come_35 : decode cX7_come 35 = .ok (.iconst 0, 1) := by decide +kernel
theorem dX7_come_36 : decode cX7_come 36 = .ok (.istore_n 3, 1) := by decide +kernel
theorem dX7_come_37 : decode cX7_come 37 = .ok (.iconst 1, 1) := by decide +kernel
theorem dX7_come_38 : decode cX7_come 38 = .ok (.istore 4, 2) := by decide +kernel
theorem dX7_come_40 : decode cX7_come 40 = .ok (.iload 4, 2) := by decide +kernel
theorem dX7_come_42 : decode cX7_come 42 = .ok (.iconst 5, 1) := by decide +kernel
theorem dX7_come_43 : decode cX7_come 43 = .ok (.if_icmp .ge 27, 3) := by decide +kernel
theorem dX7_come_46 : decode cX7_come 46 = .ok (.aload_n 0, 1) := by decide +kernel
theorem dX7_come_47 : decode cX7_come 47 = .ok (.getfield 65, 3) := by decide +kernel
theorem dX7_come_50 : decode cX7_come 50 = .ok (.iload 4, 2) := by decide +kernel
theorem dX7_come_52 : decode cX7_come 52 = .ok (.iaload, 1) := by decide +kernel
theorem dX7_come_53 : decode cX7_come 53 = .ok (.iload_n 2, 1) := by decide +kernel
theorem dX7_come_54 : decode cX7_come 54 = .ok (.if_icmp .ne 8, 3) := by decide +kernel
theorem dX7_come_57 : decode cX7_come 57 = .ok (.iload 4, 2) := by decide +kernel
theorem dX7_come_59 : decode cX7_come 59 = .ok (.goto 4, 3) := by decide +kernel
theorem dX7_come_62 : decode cX7_come 62 = .ok (.iload_n 3, 1) := by decide +kernel
theorem dX7_come_63 : decode cX7_come 63 = .ok (.istore_n 3, 1) := by decide +kernel
theorem dX7_come_64 : decode cX7_come 64 = .ok (.iinc 4 1, 3) := by decide +kernel
theorem dX7_come_67 : decode cX7_come 67 = .ok (.goto (-27), 3) := by decide +kernel
theorem dX7_come_70 : decode cX7_come 70 = .ok (.aload_n 0, 1) := by decide +kernel
theorem dX7_come_71 : decode cX7_come 71 = .ok (.getfield 68, 3) := by decide +kernel
theorem dX7_come_74 : decode cX7_come 74 = .ok (.iload_n 1, 1) := by decide +kernel
theorem dX7_come_75 : decode cX7_come 75 = .ok (.iaload, 1) := by decide +kernel
theorem dX7_come_76 : decode cX7_come 76 = .ok (.ifCond .le 23, 3) := by decide +kernel
theorem dX7_come_79 : decode cX7_come 79 = .ok (.aload_n 0, 1) := by decide +kernel
theorem dX7_come_80 : decode cX7_come 80 = .ok (.getfield 127, 3) := by decide +kernel
theorem dX7_come_83 : decode cX7_come 83 = .ok (.aload_n 0, 1) := by decide +kernel
theorem dX7_come_84 : decode cX7_come 84 = .ok (.getfield 71, 3) := by decide +kernel
theorem dX7_come_87 : decode cX7_come 87 = .ok (.iload_n 1, 1) := by decide +kernel
theorem dX7_come_88 : decode cX7_come 88 = .ok (.iaload, 1) := by decide +kernel
theorem dX7_come_89 : decode cX7_come 89 = .ok (.isub, 1) := by decide +kernel
theorem dX7_come_90 : decode cX7_come 90 = .ok (.bipush 20, 2) := by decide +kernel
theorem dX7_come_92 : decode cX7_come 92 = .ok (.if_icmp .ge 7, 3) := by decide +kernel
theorem dX7_come_95 : decode cX7_come 95 = .ok (.iconst 1, 1) := by decide +kernel
theorem dX7_come_96 : decode cX7_come 96 = .ok (.goto 4, 3) := by decide +kernel
theorem dX7_come_99 : decode cX7_come 99 = .ok (.iconst 0, 1) := by decide +kernel
theorem dX7_come_100 : decode cX7_come 100 = .ok (.istore 4, 2) := by decide +kernel
theorem dX7_come_102 : decode cX7_come 102 = .ok (.aload_n 0, 1) := by decide +kernel
theorem dX7_come_103 : decode cX7_come 103 = .ok (.getfield 68, 3) := by decide +kernel
theorem dX7_come_106 : decode cX7_come 106 = .ok (.iload_n 1, 1) := by decide +kernel
theorem dX7_come_107 : decode cX7_come 107 = .ok (.iload_n 3, 1) := by decide +kernel
theorem dX7_come_108 : decode cX7_come 108 = .ok (.ifCond .le 7, 3) := by decide +kernel
theorem dX7_come_111 : decode cX7_come 111 = .ok (.iload_n 3, 1) := by decide +kernel
theorem dX7_come_112 : decode cX7_come 112 = .ok (.goto 18, 3) := by decide +kernel
theorem dX7_come_115 : decode cX7_come 115 = .ok (.iload 4, 2) := by decide +kernel
theorem dX7_come_117 : decode cX7_come 117 = .ok (.ifCond .eq 12, 3) := by decide +kernel
theorem dX7_come_120 : decode cX7_come 120 = .ok (.aload_n 0, 1) := by decide +kernel
theorem dX7_come_121 : decode cX7_come 121 = .ok (.getfield 68, 3) := by decide +kernel
theorem dX7_come_124 : decode cX7_come 124 = .ok (.iload_n 1, 1) := by decide +kernel
theorem dX7_come_125 : decode cX7_come 125 = .ok (.iaload, 1) := by decide +kernel
theorem dX7_come_126 : decode cX7_come 126 = .ok (.goto 4, 3) := by decide +kernel
theorem dX7_come_129 : decode cX7_come 129 = .ok (.iconst 0, 1) := by decide +kernel
theorem dX7_come_130 : decode cX7_come 130 = .ok (.iastore, 1) := by decide +kernel
theorem dX7_come_131 : decode cX7_come 131 = .ok (.aload_n 0, 1) := by decide +kernel
theorem dX7_come_132 : decode cX7_come 132 = .ok (.getfield 71, 3) := by decide +kernel
theorem dX7_come_135 : decode cX7_come 135 = .ok (.iload_n 1, 1) := by decide +kernel
theorem dX7_come_136 : decode cX7_come 136 = .ok (.aload_n 0, 1) := by decide +kernel
theorem dX7_come_137 : decode cX7_come 137 = .ok (.getfield 127, 3) := by decide +kernel
theorem dX7_come_140 : decode cX7_come 140 = .ok (.iastore, 1) := by decide +kernel
theorem dX7_come_141 : decode cX7_come 141 = .ok (.aload_n 0, 1) := by decide +kernel
theorem dX7_come_142 : decode cX7_come 142 = .ok (.getfield 68, 3) := by decide +kernel
theorem dX7_come_145 : decode cX7_come 145 = .ok (.iload_n 1, 1) := by decide +kernel
theorem dX7_come_146 : decode cX7_come 146 = .ok (.iaload, 1) := by decide +kernel
theorem dX7_come_147 : decode cX7_come 147 = .ok (.ireturn, 1) := by decide +kernel
theorem dJ9_min_7cf53_0 : decode cJ9_min_7cf53 0 = .ok (.iload_n 0, 1) := by decide +kernel
theorem dJ9_min_7cf53_1 : decode cJ9_min_7cf53 1 = .ok (.iload_n 1, 1) := by decide +kernel
theorem dJ9_min_7cf53_2 : decode cJ9_min_7cf53 2 = .ok (.if_icmp .gt 7, 3) := by decide +kernel
theorem dJ9_min_7cf53_5 : decode cJ9_min_7cf53 5 = .ok (.iload_n 0, 1) := by decide +kernel
theorem dJ9_min_7cf53_6 : decode cJ9_min_7cf53 6 = .ok (.goto 4, 3) := by decide +kernel
theorem dJ9_min_7cf53_9 : decode cJ9_min_7cf53 9 = .ok (.iload_n 1, 1) := by decide +kernel
theorem dJ9_min_7cf53_10 : decode cJ9_min_7cf53 10 = .ok (.ireturn, 1) := by decide +kernel
theorem dJ7_fill_53178_0 : decode cJ7_fill_53178 0 = .ok (.iconst 0, 1) := by decide +kernel
theorem dJ7_fill_53178_1 : decode cJ7_fill_53178 1 = .ok (.istore_n 2, 1) := by decide +kernel
theorem dJ7_fill_53178_2 : decode cJ7_fill_53178 2 = .ok (.aload_n 0, 1) := by decide +kernel
theorem dJ7_fill_53178_3 : decode cJ7_fill_53178 3 = .ok (.arraylength, 1) := by decide +kernel
theorem dJ7_fill_53178_4 : decode cJ7_fill_53178 4 = .ok (.istore_n 3, 1) := by decide +kernel
theorem dJ7_fill_53178_5 : decode cJ7_fill_53178 5 = .ok (.iload_n 2, 1) := by decide +kernel
theorem dJ7_fill_53178_6 : decode cJ7_fill_53178 6 = .ok (.iload_n 3, 1) := by decide +kernel
theorem dJ7_fill_53178_7 : decode cJ7_fill_53178 7 = .ok (.if_icmp .ge 13, 3) := by decide +kernel
theorem dJ7_fill_53178_10 : decode cJ7_fill_53178 10 = .ok (.aload_n 0, 1) := by decide +kernel
theorem dJ7_fill_53178_11 : decode cJ7_fill_53178 11 = .ok (.iload_n 2, 1) := by decide +kernel
theorem dJ7_fill_53178_12 : decode cJ7_fill_53178 12 = .ok (.iload_n 1, 1) := by decide +kernel
theorem dJ7_fill_53178_13 : decode cJ7_fill_53178 13 = .ok (.iastore, 1) := by decide +kernel
theorem dJ7_fill_53178_14 : decode cJ7_fill_53178 14 = .ok (.iinc 2 1, 3) := by decide +kernel
theorem dJ7_fill_53178_17 : decode cJ7_fill_53178 17 = .ok (.goto (-12), 3) := by decide +kernel
theorem dJ7_fill_53178_20 : decode cJ7_fill_53178 20 = .ok (.return_, 1) := by decide +kernel
theorem dJ7_copyOf_59c91_0 : decode cJ7_copyOf_59c91 0 = .ok (.iload_n 1, 1) := by decide +kernel
theorem dJ7_copyOf_59c91_1 : decode cJ7_copyOf_59c91 1 = .ok (.aload_n 0, 1) := by decide +kernel
theorem dJ7_copyOf_59c91_2 : decode cJ7_copyOf_59c91 2 = .ok (.arraylength, 1) := by decide +kernel
theorem dJ7_copyOf_59c91_3 : decode cJ7_copyOf_59c91 3 = .ok (.if_icmp .ne 11, 3) := by decide +kernel
theorem dJ7_copyOf_59c91_6 : decode cJ7_copyOf_59c91 6 = .ok (.aload_n 0, 1) := by decide +kernel
theorem dJ7_copyOf_59c91_7 : decode cJ7_copyOf_59c91 7 = .ok (.invokevirtual 316, 3) := by decide +kernel
theorem dJ7_copyOf_59c91_10 : decode cJ7_copyOf_59c91 10 = .ok (.checkcast 317, 3) := by decide +kernel
theorem dJ7_copyOf_59c91_13 : decode cJ7_copyOf_59c91 13 = .ok (.areturn, 1) := by decide +kernel
theorem dJ7_copyOf_59c91_14 : decode cJ7_copyOf_59c91 14 = .ok (.iload_n 1, 1) := by decide +kernel
theorem dJ7_copyOf_59c91_15 : decode cJ7_copyOf_59c91 15 = .ok (.newarray .int, 2) := by decide +kernel
theorem dJ7_copyOf_59c91_17 : decode cJ7_copyOf_59c91 17 = .ok (.astore_n 2, 1) := by decide +kernel
theorem dJ7_copyOf_59c91_18 : decode cJ7_copyOf_59c91 18 = .ok (.aload_n 0, 1) := by decide +kernel
theorem dJ7_copyOf_59c91_19 : decode cJ7_copyOf_59c91 19 = .ok (.iconst 0, 1) := by decide +kernel
theorem dJ7_copyOf_59c91_20 : decode cJ7_copyOf_59c91 20 = .ok (.aload_n 2, 1) := by decide +kernel
theorem dJ7_copyOf_59c91_21 : decode cJ7_copyOf_59c91 21 = .ok (.iconst 0, 1) := by decide +kernel
theorem dJ7_copyOf_59c91_22 : decode cJ7_copyOf_59c91 22 = .ok (.aload_n 0, 1) := by decide +kernel
theorem dJ7_copyOf_59c91_23 : decode cJ7_copyOf_59c91 23 = .ok (.arraylength, 1) := by decide +kernel
theorem dJ7_copyOf_59c91_24 : decode cJ7_copyOf_59c91 24 = .ok (.iload_n 1, 1) := by decide +kernel
theorem dJ7_copyOf_59c91_25 : decode cJ7_copyOf_59c91 25 = .ok (.invokestatic 304, 3) := by decide +kernel
theorem dJ7_copyOf_59c91_28 : decode cJ7_copyOf_59c91 28 = .ok (.invokestatic 150, 3) := by decide +kernel
theorem dJ7_copyOf_59c91_31 : decode cJ7_copyOf_59c91 31 = .ok (.aload_n 2, 1) := by decide +kernel
theorem dJ7_copyOf_59c91_32 : decode cJ7_copyOf_59c91 32 = .ok (.areturn, 1) := by decide +kernel
