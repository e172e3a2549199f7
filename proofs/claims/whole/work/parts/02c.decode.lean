theorem dX8_init_0 : decode cX8_init 0 = .ok (.aload_n 0, 1) := by decide +kernel
theorem dX8_init_1 : decode cX8_init 1 = .ok (.invokespecial 1, 3) := by decide +kernel
theorem dX8_init_4 : decode cX8_init 4 = .ok (.aload_n 0, 1) := by decide +kernel
theorem dX8_init_5 : decode cX8_init 5 = .ok (.bipush 6, 2) := by decide +kernel
theorem dX8_init_7 : decode cX8_init 7 = .ok (.newarray .int, 2) := by decide +kernel
theorem dX8_init_9 : decode cX8_init 9 = .ok (.putfield 7, 3) := by decide +kernel
theorem dX8_init_12 : decode cX8_init 12 = .ok (.aload_n 0, 1) := by decide +kernel
theorem dX8_init_13 : decode cX8_init 13 = .ok (.bipush 6, 2) := by decide +kernel
theorem dX8_init_15 : decode cX8_init 15 = .ok (.newarray .int, 2) := by decide +kernel
theorem dX8_init_17 : decode cX8_init 17 = .ok (.putfield 13, 3) := by decide +kernel
theorem dX8_init_20 : decode cX8_init 20 = .ok (.aload_n 0, 1) := by decide +kernel
theorem dX8_init_21 : decode cX8_init 21 = .ok (.sipush 240, 3) := by decide +kernel
theorem dX8_init_24 : decode cX8_init 24 = .ok (.newarray .int, 2) := by decide +kernel
theorem dX8_init_26 : decode cX8_init 26 = .ok (.putfield 16, 3) := by decide +kernel
theorem dX8_init_29 : decode cX8_init 29 = .ok (.aload_n 0, 1) := by decide +kernel
theorem dX8_init_30 : decode cX8_init 30 = .ok (.bipush 40, 2) := by decide +kernel
theorem dX8_init_32 : decode cX8_init 32 = .ok (.newarray .int, 2) := by decide +kernel
theorem dX8_init_34 : decode cX8_init 34 = .ok (.putfield 19, 3) := by decide +kernel
theorem dX8_init_37 : decode cX8_init 37 = .ok (.aload_n 0, 1) := by decide +kernel
theorem dX8_init_38 : decode cX8_init 38 = .ok (.iconst 4, 1) := by decide +kernel
theorem dX8_init_39 : decode cX8_init 39 = .ok (.newarray .int, 2) := by decide +kernel
theorem dX8_init_41 : decode cX8_init 41 = .ok (.putfield 22, 3) := by decide +kernel
theorem dX8_init_44 : decode cX8_init 44 = .ok (.aload_n 0, 1) := by decide +kernel
theorem dX8_init_45 : decode cX8_init 45 = .ok (.sipush 320, 3) := by decide +kernel
theorem dX8_init_48 : decode cX8_init 48 = .ok (.newarray .byte, 2) := by decide +kernel
theorem dX8_init_50 : decode cX8_init 50 = .ok (.putfield 25, 3) := by decide +kernel
theorem dX8_init_53 : decode cX8_init 53 = .ok (.aload_n 0, 1) := by decide +kernel
theorem dX8_init_54 : decode cX8_init 54 = .ok (.bipush 24, 2) := by decide +kernel
theorem dX8_init_56 : decode cX8_init 56 = .ok (.newarray .int, 2) := by decide +kernel
theorem dX8_init_58 : decode cX8_init 58 = .ok (.putfield 29, 3) := by decide +kernel
theorem dX8_init_61 : decode cX8_init 61 = .ok (.aload_n 0, 1) := by decide +kernel
theorem dX8_init_62 : decode cX8_init 62 = .ok (.bipush 6, 2) := by decide +kernel
theorem dX8_init_64 : decode cX8_init 64 = .ok (.newarray .int, 2) := by decide +kernel
theorem dX8_init_66 : decode cX8_init 66 = .ok (.putfield 32, 3) := by decide +kernel
theorem dX8_init_69 : decode cX8_init 69 = .ok (.aload_n 0, 1) := by decide +kernel
theorem dX8_init_70 : decode cX8_init 70 = .ok (.bipush 24, 2) := by decide +kernel
theorem dX8_init_72 : decode cX8_init 72 = .ok (.newarray .int, 2) := by decide +kernel
theorem dX8_init_74 : decode cX8_init 74 = .ok (.putfield 35, 3) := by decide +kernel
theorem dX8_init_77 : decode cX8_init 77 = .ok (.aload_n 0, 1) := by decide +kernel
theorem dX8_init_78 : decode cX8_init 78 = .ok (.bipush 6, 2) := by decide +kernel
theorem dX8_init_80 : decode cX8_init 80 = .ok (.newarray .int, 2) := by decide +kernel
theorem dX8_init_82 : decode cX8_init 82 = .ok (.putfield 38, 3) := by decide +kernel
theorem dX8_init_85 : decode cX8_init 85 = .ok (.aload_n 0, 1) := by decide +kernel
theorem dX8_init_86 : decode cX8_init 86 = .ok (.bipush 96, 2) := by decide +kernel
theorem dX8_init_88 : decode cX8_init 88 = .ok (.newarray .int, 2) := by decide +kernel
theorem dX8_init_90 : decode cX8_init 90 = .ok (.putfield 41, 3) := by decide +kernel
theorem dX8_init_93 : decode cX8_init 93 = .ok (.aload_n 0, 1) := by decide +kernel
theorem dX8_init_94 : decode cX8_init 94 = .ok (.sipush 320, 3) := by decide +kernel
theorem dX8_init_97 : decode cX8_init 97 = .ok (.newarray .int, 2) := by decide +kernel
theorem dX8_init_99 : decode cX8_init 99 = .ok (.putfield 44, 3) := by decide +kernel
theorem dX8_init_102 : decode cX8_init 102 = .ok (.aload_n 0, 1) := by decide +kernel
theorem dX8_init_103 : decode cX8_init 103 = .ok (.bipush 31, 2) := by decide +kernel
theorem dX8_init_105 : decode cX8_init 105 = .ok (.newarray .int, 2) := by decide +kernel
theorem dX8_init_107 : decode cX8_init 107 = .ok (.putfield 47, 3) := by decide +kernel
theorem dX8_init_110 : decode cX8_init 110 = .ok (.aload_n 0, 1) := by decide +kernel
theorem dX8_init_111 : decode cX8_init 111 = .ok (.bipush 31, 2) := by decide +kernel
theorem dX8_init_113 : decode cX8_init 113 = .ok (.newarray .int, 2) := by decide +kernel
theorem dX8_init_115 : decode cX8_init 115 = .ok (.putfield 50, 3) := by decide +kernel
theorem dX8_init_118 : decode cX8_init 118 = .ok (.aload_n 0, 1) := by decide +kernel
theorem dX8_init_119 : decode cX8_init 119 = .ok (.bipush 31, 2) := by decide +kernel
theorem dX8_init_121 : decode cX8_init 121 = .ok (.newarray .int, 2) := by decide +kernel
theorem dX8_init_123 : decode cX8_init 123 = .ok (.putfield 53, 3) := by decide +kernel
theorem dX8_init_126 : decode cX8_init 126 = .ok (.aload_n 0, 1) := by decide +kernel
theorem dX8_init_127 : decode cX8_init 127 = .ok (.bipush 31, 2) := by decide +kernel
theorem dX8_init_129 : decode cX8_init 129 = .ok (.newarray .int, 2) := by decide +kernel
theorem dX8_init_131 : decode cX8_init 131 = .ok (.putfield 56, 3) := by decide +kernel
theorem dX8_init_134 : decode cX8_init 134 = .ok (.aload_n 0, 1) := by decide +kernel
theorem dX8_init_135 : decode cX8_init 135 = .ok (.bipush 93, 2) := by decide +kernel
theorem dX8_init_137 : decode cX8_init 137 = .ok (.newarray .int, 2) := by decide +kernel
theorem dX8_init_139 : decode cX8_init 139 = .ok (.putfield 59, 3) := by decide +kernel
theorem dX8_init_142 : decode cX8_init 142 = .ok (.aload_n 0, 1) := by decide +kernel
theorem dX8_init_143 : decode cX8_init 143 = .ok (.iconst 3, 1) := by decide +kernel
theorem dX8_init_144 : decode cX8_init 144 = .ok (.newarray .int, 2) := by decide +kernel
theorem dX8_init_146 : decode cX8_init 146 = .ok (.putfield 62, 3) := by decide +kernel
theorem dX8_init_149 : decode cX8_init 149 = .ok (.aload_n 0, 1) := by decide +kernel
theorem dX8_init_150 : decode cX8_init 150 = .ok (.bipush 27, 2) := by decide +kernel
theorem dX8_init_152 : decode cX8_init 152 = .ok (.newarray .int, 2) := by decide +kernel
theorem dX8_init_154 : decode cX8_init 154 = .ok (.putfield 65, 3) := by decide +kernel
theorem dX8_init_157 : decode cX8_init 157 = .ok (.aload_n 0, 1) := by decide +kernel
theorem dX8_init_158 : decode cX8_init 158 = .ok (.bipush 27, 2) := by decide +kernel
theorem dX8_init_160 : decode cX8_init 160 = .ok (.newarray .int, 2) := by decide +kernel
theorem dX8_init_162 : decode cX8_init 162 = .ok (.putfield 68, 3) := by decide +kernel
theorem dX8_init_165 : decode cX8_init 165 = .ok (.aload_n 0, 1) := by decide +kernel
theorem dX8_init_166 : decode cX8_init 166 = .ok (.iconst 3, 1) := by decide +kernel
theorem dX8_init_167 : decode cX8_init 167 = .ok (.newarray .int, 2) := by decide +kernel
theorem dX8_init_169 : decode cX8_init 169 = .ok (.putfield 71, 3) := by decide +kernel
theorem dX8_init_172 : decode cX8_init 172 = .ok (.aload_n 0, 1) := by decide +kernel
theorem dX8_init_173 : decode cX8_init 173 = .ok (.ldc 74, 2) := by decide +kernel
theorem dX8_init_175 : decode cX8_init 175 = .ok (.newarray .long, 2) := by decide +kernel
theorem dX8_init_177 : decode cX8_init 177 = .ok (.putfield 75, 3) := by decide +kernel
theorem dX8_init_180 : decode cX8_init 180 = .ok (.aload_n 0, 1) := by decide +kernel
theorem dX8_init_181 : decode cX8_init 181 = .ok (.ldc 74, 2) := by decide +kernel
theorem dX8_init_183 : decode cX8_init 183 = .ok (.newarray .long, 2) := by decide +kernel
theorem dX8_init_185 : decode cX8_init 185 = .ok (.putfield 79, 3) := by decide +kernel
theorem dX8_init_188 : decode cX8_init 188 = .ok (.aload_n 0, 1) := by decide +kernel
theorem dX8_init_189 : decode cX8_init 189 = .ok (.sipush 1728, 3) := by decide +kernel
theorem dX8_init_192 : decode cX8_init 192 = .ok (.newarray .int, 2) := by decide +kernel
theorem dX8_init_194 : decode cX8_init 194 = .ok (.putfield 82, 3) := by decide +kernel
theorem dX8_init_197 : decode cX8_init 197 = .ok (.aload_n 0, 1) := by decide +kernel
theorem dX8_init_198 : decode cX8_init 198 = .ok (.sipush 1728, 3) := by decide +kernel
theorem dX8_init_201 : decode cX8_init 201 = .ok (.newarray .int, 2) := by decide +kernel
theorem dX8_init_203 : decode cX8_init 203 = .ok (.putfield 85, 3) := by decide +kernel
theorem dX8_init_206 : decode cX8_init 206 = .ok (.aload_n 0, 1) := by decide +kernel
theorem dX8_init_207 : decode cX8_init 207 = .ok (.bipush 6, 2) := by decide +kernel
theorem dX8_init_209 : decode cX8_init 209 = .ok (.newarray .long, 2) := by decide +kernel
theorem dX8_init_211 : decode cX8_init 211 = .ok (.putfield 88, 3) := by decide +kernel
theorem dX8_init_214 : decode cX8_init 214 = .ok (.aload_n 0, 1) := by decide +kernel
theorem dX8_init_215 : decode cX8_init 215 = .ok (.lconst 1, 1) := by decide +kernel
theorem dX8_init_216 : decode cX8_init 216 = .ok (.putfield 91, 3) := by decide +kernel
theorem dX8_init_219 : decode cX8_init 219 = .ok (.aload_n 0, 1) := by decide +kernel
theorem dX8_init_220 : decode cX8_init 220 = .ok (.iconst 1, 1) := by decide +kernel
theorem dX8_init_221 : decode cX8_init 221 = .ok (.putfield 95, 3) := by decide +kernel
theorem dX8_init_224 : decode cX8_init 224 = .ok (.aload_n 0, 1) := by decide +kernel
theorem dX8_init_225 : decode cX8_init 225 = .ok (.bipush 12, 2) := by decide +kernel
theorem dX8_init_227 : decode cX8_init 227 = .ok (.putfield 99, 3) := by decide +kernel
theorem dX8_init_230 : decode cX8_init 230 = .ok (.iconst 0, 1) := by decide +kernel
theorem dX8_init_231 : decode cX8_init 231 = .ok (.istore_n 1, 1) := by decide +kernel
theorem dX8_init_232 : decode cX8_init 232 = .ok (.iload_n 1, 1) := by decide +kernel
theorem dX8_init_233 : decode cX8_init 233 = .ok (.bipush 6, 2) := by decide +kernel
theorem dX8_init_235 : decode cX8_init 235 = .ok (.if_icmp .ge 16, 3) := by decide +kernel
theorem dX8_init_238 : decode cX8_init 238 = .ok (.aload_n 0, 1) := by decide +kernel
theorem dX8_init_239 : decode cX8_init 239 = .ok (.getfield 13, 3) := by decide +kernel
theorem dX8_init_242 : decode cX8_init 242 = .ok (.iload_n 1, 1) := by decide +kernel
theorem dX8_init_243 : decode cX8_init 243 = .ok (.iconst (-1), 1) := by decide +kernel
theorem dX8_init_244 : decode cX8_init 244 = .ok (.iastore, 1) := by decide +kernel
theorem dX8_init_245 : decode cX8_init 245 = .ok (.iinc 1 1, 3) := by decide +kernel
theorem dX8_init_248 : decode cX8_init 248 = .ok (.goto (-16), 3) := by decide +kernel
theorem dX8_init_251 : decode cX8_init 251 = .ok (.iconst 0, 1) := by decide +kernel
theorem dX8_init_252 : decode cX8_init 252 = .ok (.istore_n 1, 1) := by decide +kernel
theorem dX8_init_253 : decode cX8_init 253 = .ok (.iload_n 1, 1) := by decide +kernel
theorem dX8_init_254 : decode cX8_init 254 = .ok (.iconst 4, 1) := by decide +kernel
theorem dX8_init_255 : decode cX8_init 255 = .ok (.if_icmp .ge 16, 3) := by decide +kernel
theorem dX8_init_258 : decode cX8_init 258 = .ok (.aload_n 0, 1) := by decide +kernel
theorem dX8_init_259 : decode cX8_init 259 = .ok (.getfield 22, 3) := by decide +kernel
theorem dX8_init_262 : decode cX8_init 262 = .ok (.iload_n 1, 1) := by decide +kernel
theorem dX8_init_263 : decode cX8_init 263 = .ok (.iconst (-1), 1) := by decide +kernel
theorem dX8_init_264 : decode cX8_init 264 = .ok (.iastore, 1) := by decide +kernel
theorem dX8_init_265 : decode cX8_init 265 = .ok (.iinc 1 1, 3) := by decide +kernel
theorem dX8_init_268 : decode cX8_init 268 = .ok (.goto (-15), 3) := by decide +kernel
theorem dX8_init_271 : decode cX8_init 271 = .ok (.return_, 1) := by decide +kernel
theorem dX8_in_0 : decode cX8_in 0 = .ok (.iload_n 0, 1) := by decide +kernel
theorem dX8_in_1 : decode cX8_in 1 = .ok (.iload_n 1, 1) := by decide +kernel
theorem dX8_in_2 : decode cX8_in 2 = .ok (.if_icmp .lt 12, 3) := by decide +kernel
theorem dX8_in_5 : decode cX8_in 5 = .ok (.iload_n 0, 1) := by decide +kernel
theorem dX8_in_6 : decode cX8_in 6 = .ok (.iload_n 2, 1) := by decide +kernel
theorem dX8_in_7 : decode cX8_in 7 = .ok (.if_icmp .gt 7, 3) := by decide +kernel
theorem dX8_in_10 : decode cX8_in 10 = .ok (.iconst 1, 1) := by decide +kernel
theorem dX8_in_11 : decode cX8_in 11 = .ok (.goto 4, 3) := by decide +kernel
theorem dX8_in_14 : decode cX8_in 14 = .ok (.iconst 0, 1) := by decide +kernel
theorem dX8_in_15 : decode cX8_in 15 = .ok (.ireturn, 1) := by decide +kernel
theorem dX8_has_0 : decode cX8_has 0 = .ok (.iload_n 0, 1) := by decide +kernel
theorem dX8_has_1 : decode cX8_has 1 = .ok (.iload_n 1, 1) := by decide +kernel
theorem dX8_has_2 : decode cX8_has 2 = .ok (.ishr, 1) := by decide +kernel
theorem dX8_has_3 : decode cX8_has 3 = .ok (.iconst 1, 1) := by decide +kernel
theorem dX8_has_4 : decode cX8_has 4 = .ok (.iand, 1) := by decide +kernel
theorem dX8_has_5 : decode cX8_has 5 = .ok (.iconst 1, 1) := by decide +kernel
theorem dX8_has_6 : decode cX8_has 6 = .ok (.if_icmp .ne 7, 3) := by decide +kernel
theorem dX8_has_9 : decode cX8_has 9 = .ok (.iconst 1, 1) := by decide +kernel
theorem dX8_has_10 : decode cX8_has 10 = .ok (.goto 4, 3) := by decide +kernel
theorem dX8_has_13 : decode cX8_has 13 = .ok (.iconst 0, 1) := by decide +kernel
theorem dX8_has_14 : decode cX8_has 14 = .ok (.ireturn, 1) := by decide +kernel
theorem dX8_bits_0 : decode cX8_bits 0 = .ok (.iconst 0, 1) := by decide +kernel
theorem dX8_bits_1 : decode cX8_bits 1 = .ok (.istore_n 1, 1) := by decide +kernel
theorem dX8_bits_2 : decode cX8_bits 2 = .ok (.iload_n 0, 1) := by decide +kernel
theorem dX8_bits_3 : decode cX8_bits 3 = .ok (.istore_n 2, 1) := by decide +kernel
theorem dX8_bits_4 : decode cX8_bits 4 = .ok (.iload_n 2, 1) := by decide +kernel
theorem dX8_bits_5 : decode cX8_bits 5 = .ok (.ifCond .eq 15, 3) := by decide +kernel
theorem dX8_bits_8 : decode cX8_bits 8 = .ok (.iinc 1 1, 3) := by decide +kernel
theorem dX8_bits_11 : decode cX8_bits 11 = .ok (.iload_n 2, 1) := by decide +kernel
theorem dX8_bits_12 : decode cX8_bits 12 = .ok (.iload_n 2, 1) := by decide +kernel
theorem dX8_bits_13 : decode cX8_bits 13 = .ok (.iconst 1, 1) := by decide +kernel
theorem dX8_bits_14 : decode cX8_bits 14 = .ok (.isub, 1) := by decide +kernel
theorem dX8_bits_15 : decode cX8_bits 15 = .ok (.iand, 1) := by decide +kernel
theorem dX8_bits_16 : decode cX8_bits 16 = .ok (.istore_n 2, 1) := by decide +kernel
theorem dX8_bits_17 : decode cX8_bits 17 = .ok (.goto (-13), 3) := by decide +kernel
theorem dX8_bits_20 : decode cX8_bits 20 = .ok (.iload_n 1, 1) := by decide +kernel
theorem dX8_bits_21 : decode cX8_bits 21 = .ok (.ireturn, 1) := by decide +kernel
theorem dX8_meets_0 : decode cX8_meets 0 = .ok (.aload_n 0, 1) := by decide +kernel
theorem dX8_meets_1 : decode cX8_meets 1 = .ok (.iload_n 1, 1) := by decide +kernel
theorem dX8_meets_2 : decode cX8_meets 2 = .ok (.putfield 102, 3) := by decide +kernel
theorem dX8_meets_5 : decode cX8_meets 5 = .ok (.aload_n 0, 1) := by decide +kernel
theorem dX8_meets_6 : decode cX8_meets 6 = .ok (.getfield 7, 3) := by decide +kernel
theorem dX8_meets_9 : decode cX8_meets 9 = .ok (.iload_n 1, 1) := by decide +kernel
theorem dX8_meets_10 : decode cX8_meets 10 = .ok (.dup2, 1) := by decide +kernel
theorem dX8_meets_11 : decode cX8_meets 11 = .ok (.iaload, 1) := by decide +kernel
theorem dX8_meets_12 : decode cX8_meets 12 = .ok (.iconst 1, 1) := by decide +kernel
theorem dX8_meets_13 : decode cX8_meets 13 = .ok (.iadd, 1) := by decide +kernel
theorem dX8_meets_14 : decode cX8_meets 14 = .ok (.iastore, 1) := by decide +kernel
theorem dX8_meets_15 : decode cX8_meets 15 = .ok (.bipush (-3), 2) := by decide +kernel
theorem dX8_meets_17 : decode cX8_meets 17 = .ok (.ireturn, 1) := by decide +kernel
theorem dX8_finding_0 : decode cX8_finding 0 = .ok (.aload_n 0, 1) := by decide +kernel
theorem dX8_finding_1 : decode cX8_finding 1 = .ok (.getfield 102, 3) := by decide +kernel
theorem dX8_finding_4 : decode cX8_finding 4 = .ok (.ireturn, 1) := by decide +kernel
theorem dX8_findings_0 : decode cX8_findings 0 = .ok (.iload_n 1, 1) := by decide +kernel
theorem dX8_findings_1 : decode cX8_findings 1 = .ok (.iconst 1, 1) := by decide +kernel
theorem dX8_findings_2 : decode cX8_findings 2 = .ok (.iconst 5, 1) := by decide +kernel
theorem dX8_findings_3 : decode cX8_findings 3 = .ok (.invokestatic 105, 3) := by decide +kernel
theorem dX8_findings_6 : decode cX8_findings 6 = .ok (.ifCond .eq 12, 3) := by decide +kernel
theorem dX8_findings_9 : decode cX8_findings 9 = .ok (.aload_n 0, 1) := by decide +kernel
theorem dX8_findings_10 : decode cX8_findings 10 = .ok (.getfield 7, 3) := by decide +kernel
theorem dX8_findings_13 : decode cX8_findings 13 = .ok (.iload_n 1, 1) := by decide +kernel
theorem dX8_findings_14 : decode cX8_findings 14 = .ok (.iaload, 1) := by decide +kernel
theorem dX8_findings_15 : decode cX8_findings 15 = .ok (.goto 4, 3) := by decide +kernel
theorem dX8_findings_18 : decode cX8_findings 18 = .ok (.iconst (-1), 1) := by decide +kernel
theorem dX8_findings_19 : decode cX8_findings 19 = .ok (.ireturn, 1) := by decide +kernel
theorem dX8_tells_0 : decode cX8_tells 0 = .ok (.aload_n 0, 1) := by decide +kernel
theorem dX8_tells_1 : decode cX8_tells 1 = .ok (.iload_n 1, 1) := by decide +kernel
theorem dX8_tells_2 : decode cX8_tells 2 = .ok (.putfield 109, 3) := by decide +kernel
theorem dX8_tells_5 : decode cX8_tells 5 = .ok (.iload_n 2, 1) := by decide +kernel
theorem dX8_tells_6 : decode cX8_tells 6 = .ok (.ireturn, 1) := by decide +kernel
theorem dX8_asked_0 : decode cX8_asked 0 = .ok (.aload_n 0, 1) := by decide +kernel
theorem dX8_asked_1 : decode cX8_asked 1 = .ok (.getfield 109, 3) := by decide +kernel
theorem dX8_asked_4 : decode cX8_asked 4 = .ok (.ireturn, 1) := by decide +kernel
theorem dX8_many_0 : decode cX8_many 0 = .ok (.aload_n 0, 1) := by decide +kernel
theorem dX8_many_1 : decode cX8_many 1 = .ok (.getfield 112, 3) := by decide +kernel
theorem dX8_many_4 : decode cX8_many 4 = .ok (.lreturn, 1) := by decide +kernel
theorem dX8_fraction_0 : decode cX8_fraction 0 = .ok (.lload_n 1, 1) := by decide +kernel
theorem dX8_fraction_1 : decode cX8_fraction 1 = .ok (.lstore 6, 2) := by decide +kernel
theorem dX8_fraction_3 : decode cX8_fraction 3 = .ok (.lload_n 3, 1) := by decide +kernel
theorem dX8_fraction_4 : decode cX8_fraction 4 = .ok (.lstore 8, 2) := by decide +kernel
theorem dX8_fraction_6 : decode cX8_fraction 6 = .ok (.lload 8, 2) := by decide +kernel
theorem dX8_fraction_8 : decode cX8_fraction 8 = .ok (.lconst 0, 1) := by decide +kernel
theorem dX8_fraction_9 : decode cX8_fraction 9 = .ok (.lcmp, 1) := by decide +kernel
theorem dX8_fraction_10 : decode cX8_fraction 10 = .ok (.ifCond .eq 21, 3) := by decide +kernel
theorem dX8_fraction_13 : decode cX8_fraction 13 = .ok (.lload 6, 2) := by decide +kernel
theorem dX8_fraction_15 : decode cX8_fraction 15 = .ok (.lload 8, 2) := by decide +kernel
theorem dX8_fraction_17 : decode cX8_fraction 17 = .ok (.lrem, 1) := by decide +kernel
theorem dX8_fraction_18 : decode cX8_fraction 18 = .ok (.lstore 10, 2) := by decide +kernel
theorem dX8_fraction_20 : decode cX8_fraction 20 = .ok (.lload 8, 2) := by decide +kernel
theorem dX8_fraction_22 : decode cX8_fraction 22 = .ok (.lstore 6, 2) := by decide +kernel
theorem dX8_fraction_24 : decode cX8_fraction 24 = .ok (.lload 10, 2) := by decide +kernel
theorem dX8_fraction_26 : decode cX8_fraction 26 = .ok (.lstore 8, 2) := by decide +kernel
theorem dX8_fraction_28 : decode cX8_fraction 28 = .ok (.goto (-22), 3) := by decide +kernel
theorem dX8_fraction_31 : decode cX8_fraction 31 = .ok (.aload_n 0, 1) := by decide +kernel
theorem dX8_fraction_32 : decode cX8_fraction 32 = .ok (.lload_n 1, 1) := by decide +kernel
theorem dX8_fraction_33 : decode cX8_fraction 33 = .ok (.lload 6, 2) := by decide +kernel
theorem dX8_fraction_35 : decode cX8_fraction 35 = .ok (.ldiv, 1) := by decide +kernel
theorem dX8_fraction_36 : decode cX8_fraction 36 = .ok (.putfield 115, 3) := by decide +kernel
theorem dX8_fraction_39 : decode cX8_fraction 39 = .ok (.aload_n 0, 1) := by decide +kernel
theorem dX8_fraction_40 : decode cX8_fraction 40 = .ok (.lload_n 3, 1) := by decide +kernel
theorem dX8_fraction_41 : decode cX8_fraction 41 = .ok (.lload 6, 2) := by decide +kernel
theorem dX8_fraction_43 : decode cX8_fraction 43 = .ok (.ldiv, 1) := by decide +kernel
theorem dX8_fraction_44 : decode cX8_fraction 44 = .ok (.putfield 91, 3) := by decide +kernel
theorem dX8_fraction_47 : decode cX8_fraction 47 = .ok (.iload 5, 2) := by decide +kernel
theorem dX8_fraction_49 : decode cX8_fraction 49 = .ok (.ireturn, 1) := by decide +kernel
theorem dX8_upper_0 : decode cX8_upper 0 = .ok (.aload_n 0, 1) := by decide +kernel
theorem dX8_upper_1 : decode cX8_upper 1 = .ok (.getfield 115, 3) := by decide +kernel
theorem dX8_upper_4 : decode cX8_upper 4 = .ok (.lreturn, 1) := by decide +kernel
theorem dX8_lower_0 : decode cX8_lower 0 = .ok (.aload_n 0, 1) := by decide +kernel
theorem dX8_lower_1 : decode cX8_lower 1 = .ok (.getfield 91, 3) := by decide +kernel
theorem dX8_lower_4 : decode cX8_lower 4 = .ok (.lreturn, 1) := by decide +kernel
theorem dX8_isRow_0 : decode cX8_isRow 0 = .ok (.iload_n 0, 1) := by decide +kernel
theorem dX8_isRow_1 : decode cX8_isRow 1 = .ok (.iconst 0, 1) := by decide +kernel
theorem dX8_isRow_2 : decode cX8_isRow 2 = .ok (.iconst 5, 1) := by decide +kernel
theorem dX8_isRow_3 : decode cX8_isRow 3 = .ok (.invokestatic 105, 3) := by decide +kernel
theorem dX8_isRow_6 : decode cX8_isRow 6 = .ok (.ireturn, 1) := by decide +kernel
theorem dX8_rowAt_0 : decode cX8_rowAt 0 = .ok (.aload_n 0, 1) := by decide +kernel
theorem dX8_rowAt_1 : decode cX8_rowAt 1 = .ok (.getfield 16, 3) := by decide +kernel
theorem dX8_rowAt_4 : decode cX8_rowAt 4 = .ok (.bipush 40, 2) := by decide +kernel
theorem dX8_rowAt_6 : decode cX8_rowAt 6 = .ok (.iload_n 1, 1) := by decide +kernel
theorem dX8_rowAt_7 : decode cX8_rowAt 7 = .ok (.imul, 1) := by decide +kernel
theorem dX8_rowAt_8 : decode cX8_rowAt 8 = .ok (.iload_n 2, 1) := by decide +kernel
theorem dX8_rowAt_9 : decode cX8_rowAt 9 = .ok (.iadd, 1) := by decide +kernel
theorem dX8_rowAt_10 : decode cX8_rowAt 10 = .ok (.iaload, 1) := by decide +kernel
theorem dX8_rowAt_11 : decode cX8_rowAt 11 = .ok (.ireturn, 1) := by decide +kernel
theorem dX8_row_0 : decode cX8_row 0 = .ok (.iload_n 1, 1) := by decide +kernel
theorem dX8_row_1 : decode cX8_row 1 = .ok (.invokestatic 118, 3) := by decide +kernel
theorem dX8_row_4 : decode cX8_row 4 = .ok (.ifCond .eq 9, 3) := by decide +kernel
theorem dX8_row_7 : decode cX8_row 7 = .ok (.iload_n 2, 1) := by decide +kernel
theorem dX8_row_8 : decode cX8_row 8 = .ok (.bipush 40, 2) := by decide +kernel
theorem dX8_row_10 : decode cX8_row 10 = .ok (.if_icmp .le 5, 3) := by decide +kernel
theorem dX8_row_13 : decode cX8_row 13 = .ok (.iconst (-1), 1) := by decide +kernel
theorem dX8_row_14 : decode cX8_row 14 = .ok (.ireturn, 1) := by decide +kernel
theorem dX8_row_15 : decode cX8_row 15 = .ok (.iload_n 2, 1) := by decide +kernel
theorem dX8_row_16 : decode cX8_row 16 = .ok (.ifCond .ge 9, 3) := by decide +kernel
theorem dX8_row_19 : decode cX8_row 19 = .ok (.aload_n 0, 1) := by decide +kernel
theorem dX8_row_20 : decode cX8_row 20 = .ok (.iconst 5, 1) := by decide +kernel
theorem dX8_row_21 : decode cX8_row 21 = .ok (.invokevirtual 122, 3) := by decide +kernel
theorem dX8_row_24 : decode cX8_row 24 = .ok (.ireturn, 1) := by decide +kernel
theorem dX8_row_25 : decode cX8_row 25 = .ok (.aload_n 0, 1) := by decide +kernel
theorem dX8_row_26 : decode cX8_row 26 = .ok (.getfield 13, 3) := by decide +kernel
theorem dX8_row_29 : decode cX8_row 29 = .ok (.iload_n 1, 1) := by decide +kernel
theorem dX8_row_30 : decode cX8_row 30 = .ok (.iload_n 2, 1) := by decide +kernel
theorem dX8_row_31 : decode cX8_row 31 = .ok (.iastore, 1) := by decide +kernel
theorem dX8_row_32 : decode cX8_row 32 = .ok (.iconst 0, 1) := by decide +kernel
theorem dX8_row_33 : decode cX8_row 33 = .ok (.istore_n 3, 1) := by decide +kernel
theorem dX8_row_34 : decode cX8_row 34 = .ok (.iload_n 3, 1) := by decide +kernel
theorem dX8_row_35 : decode cX8_row 35 = .ok (.bipush 40, 2) := by decide +kernel
theorem dX8_row_37 : decode cX8_row 37 = .ok (.if_icmp .ge 21, 3) := by decide +kernel
theorem dX8_row_40 : decode cX8_row 40 = .ok (.aload_n 0, 1) := by decide +kernel
theorem dX8_row_41 : decode cX8_row 41 = .ok (.getfield 16, 3) := by decide +kernel
theorem dX8_row_44 : decode cX8_row 44 = .ok (.bipush 40, 2) := by decide +kernel
theorem dX8_row_46 : decode cX8_row 46 = .ok (.iload_n 1, 1) := by decide +kernel
theorem dX8_row_47 : decode cX8_row 47 = .ok (.imul, 1) := by decide +kernel
theorem dX8_row_48 : decode cX8_row 48 = .ok (.iload_n 3, 1) := by decide +kernel
theorem dX8_row_49 : decode cX8_row 49 = .ok (.iadd, 1) := by decide +kernel
theorem dX8_row_50 : decode cX8_row 50 = .ok (.iconst 0, 1) := by decide +kernel
theorem dX8_row_51 : decode cX8_row 51 = .ok (.iastore, 1) := by decide +kernel
theorem dX8_row_52 : decode cX8_row 52 = .ok (.iinc 3 1, 3) := by decide +kernel
theorem dX8_row_55 : decode cX8_row 55 = .ok (.goto (-21), 3) := by decide +kernel
theorem dX8_row_58 : decode cX8_row 58 = .ok (.iload_n 2, 1) := by decide +kernel
theorem dX8_row_59 : decode cX8_row 59 = .ok (.ireturn, 1) := by decide +kernel
theorem dX8_lay_0 : decode cX8_lay 0 = .ok (.iload_n 1, 1) := by decide +kernel
theorem dX8_lay_1 : decode cX8_lay 1 = .ok (.invokestatic 118, 3) := by decide +kernel
theorem dX8_lay_4 : decode cX8_lay 4 = .ok (.ifCond .ne 5, 3) := by decide +kernel
theorem dX8_lay_7 : decode cX8_lay 7 = .ok (.iconst (-1), 1) := by decide +kernel
theorem dX8_lay_8 : decode cX8_lay 8 = .ok (.ireturn, 1) := by decide +kernel
theorem dX8_lay_9 : decode cX8_lay 9 = .ok (.aload_n 0, 1) := by decide +kernel
theorem dX8_lay_10 : decode cX8_lay 10 = .ok (.getfield 13, 3) := by decide +kernel
theorem dX8_lay_13 : decode cX8_lay 13 = .ok (.iload_n 1, 1) := by decide +kernel
theorem dX8_lay_14 : decode cX8_lay 14 = .ok (.iaload, 1) := by decide +kernel
theorem dX8_lay_15 : decode cX8_lay 15 = .ok (.ifCond .ge 9, 3) := by decide +kernel
theorem dX8_lay_18 : decode cX8_lay 18 = .ok (.aload_n 0, 1) := by decide +kernel
theorem dX8_lay_19 : decode cX8_lay 19 = .ok (.iconst 1, 1) := by decide +kernel
theorem dX8_lay_20 : decode cX8_lay 20 = .ok (.invokevirtual 122, 3) := by decide +kernel
theorem dX8_lay_23 : decode cX8_lay 23 = .ok (.ireturn, 1) := by decide +kernel
theorem dX8_lay_24 : decode cX8_lay 24 = .ok (.iload_n 2, 1) := by decide +kernel
theorem dX8_lay_25 : decode cX8_lay 25 = .ok (.iconst 0, 1) := by decide +kernel
theorem dX8_lay_26 : decode cX8_lay 26 = .ok (.aload_n 0, 1) := by decide +kernel
theorem dX8_lay_27 : decode cX8_lay 27 = .ok (.getfield 13, 3) := by decide +kernel
theorem dX8_lay_30 : decode cX8_lay 30 = .ok (.iload_n 1, 1) := by decide +kernel
theorem dX8_lay_31 : decode cX8_lay 31 = .ok (.iaload, 1) := by decide +kernel
theorem dX8_lay_32 : decode cX8_lay 32 = .ok (.iconst 1, 1) := by decide +kernel
theorem dX8_lay_33 : decode cX8_lay 33 = .ok (.isub, 1) := by decide +kernel
theorem dX8_lay_34 : decode cX8_lay 34 = .ok (.invokestatic 105, 3) := by decide +kernel
theorem dX8_lay_37 : decode cX8_lay 37 = .ok (.ifCond .ne 9, 3) := by decide +kernel
theorem dX8_lay_40 : decode cX8_lay 40 = .ok (.aload_n 0, 1) := by decide +kernel
theorem dX8_lay_41 : decode cX8_lay 41 = .ok (.iconst 2, 1) := by decide +kernel
theorem dX8_lay_42 : decode cX8_lay 42 = .ok (.invokevirtual 122, 3) := by decide +kernel
theorem dX8_lay_45 : decode cX8_lay 45 = .ok (.ireturn, 1) := by decide +kernel
theorem dX8_lay_46 : decode cX8_lay 46 = .ok (.aload_n 0, 1) := by decide +kernel
theorem dX8_lay_47 : decode cX8_lay 47 = .ok (.iload_n 1, 1) := by decide +kernel
theorem dX8_lay_48 : decode cX8_lay 48 = .ok (.iload_n 2, 1) := by decide +kernel
theorem dX8_lay_49 : decode cX8_lay 49 = .ok (.invokevirtual 126, 3) := by decide +kernel
theorem dX8_lay_52 : decode cX8_lay 52 = .ok (.istore 4, 2) := by decide +kernel
theorem dX8_lay_54 : decode cX8_lay 54 = .ok (.aload_n 0, 1) := by decide +kernel
theorem dX8_lay_55 : decode cX8_lay 55 = .ok (.getfield 16, 3) := by decide +kernel
theorem dX8_lay_58 : decode cX8_lay 58 = .ok (.bipush 40, 2) := by decide +kernel
theorem dX8_lay_60 : decode cX8_lay 60 = .ok (.iload_n 1, 1) := by decide +kernel
theorem dX8_lay_61 : decode cX8_lay 61 = .ok (.imul, 1) := by decide +kernel
theorem dX8_lay_62 : decode cX8_lay 62 = .ok (.iload_n 2, 1) := by decide +kernel
theorem dX8_lay_63 : decode cX8_lay 63 = .ok (.iadd, 1) := by decide +kernel
theorem dX8_lay_64 : decode cX8_lay 64 = .ok (.iload_n 3, 1) := by decide +kernel
theorem dX8_lay_65 : decode cX8_lay 65 = .ok (.iastore, 1) := by decide +kernel
theorem dX8_lay_66 : decode cX8_lay 66 = .ok (.aload_n 0, 1) := by decide +kernel
theorem dX8_lay_67 : decode cX8_lay 67 = .ok (.iload 4, 2) := by decide +kernel
theorem dX8_lay_69 : decode cX8_lay 69 = .ok (.iconst 1, 1) := by decide +kernel
theorem dX8_lay_70 : decode cX8_lay 70 = .ok (.invokevirtual 130, 3) := by decide +kernel
theorem dX8_lay_73 : decode cX8_lay 73 = .ok (.ireturn, 1) := by decide +kernel
theorem dX8_at_0 : decode cX8_at 0 = .ok (.iload_n 1, 1) := by decide +kernel
theorem dX8_at_1 : decode cX8_at 1 = .ok (.invokestatic 118, 3) := by decide +kernel
theorem dX8_at_4 : decode cX8_at 4 = .ok (.ifCond .ne 5, 3) := by decide +kernel
theorem dX8_at_7 : decode cX8_at 7 = .ok (.iconst (-1), 1) := by decide +kernel
theorem dX8_at_8 : decode cX8_at 8 = .ok (.ireturn, 1) := by decide +kernel
theorem dX8_at_9 : decode cX8_at 9 = .ok (.aload_n 0, 1) := by decide +kernel
theorem dX8_at_10 : decode cX8_at 10 = .ok (.getfield 13, 3) := by decide +kernel
theorem dX8_at_13 : decode cX8_at 13 = .ok (.iload_n 1, 1) := by decide +kernel
theorem dX8_at_14 : decode cX8_at 14 = .ok (.iaload, 1) := by decide +kernel
theorem dX8_at_15 : decode cX8_at 15 = .ok (.ifCond .ge 9, 3) := by decide +kernel
theorem dX8_at_18 : decode cX8_at 18 = .ok (.aload_n 0, 1) := by decide +kernel
theorem dX8_at_19 : decode cX8_at 19 = .ok (.iconst 1, 1) := by decide +kernel
theorem dX8_at_20 : decode cX8_at 20 = .ok (.invokevirtual 122, 3) := by decide +kernel
theorem dX8_at_23 : decode cX8_at 23 = .ok (.ireturn, 1) := by decide +kernel
theorem dX8_at_24 : decode cX8_at 24 = .ok (.iload_n 2, 1) := by decide +kernel
theorem dX8_at_25 : decode cX8_at 25 = .ok (.iconst 0, 1) := by decide +kernel
theorem dX8_at_26 : decode cX8_at 26 = .ok (.aload_n 0, 1) := by decide +kernel
theorem dX8_at_27 : decode cX8_at 27 = .ok (.getfield 13, 3) := by decide +kernel
theorem dX8_at_30 : decode cX8_at 30 = .ok (.iload_n 1, 1) := by decide +kernel
theorem dX8_at_31 : decode cX8_at 31 = .ok (.iaload, 1) := by decide +kernel
theorem dX8_at_32 : decode cX8_at 32 = .ok (.iconst 1, 1) := by decide +kernel
theorem dX8_at_33 : decode cX8_at 33 = .ok (.isub, 1) := by decide +kernel
theorem dX8_at_34 : decode cX8_at 34 = .ok (.invokestatic 105, 3) := by decide +kernel
theorem dX8_at_37 : decode cX8_at 37 = .ok (.ifCond .eq 17, 3) := by decide +kernel
theorem dX8_at_40 : decode cX8_at 40 = .ok (.aload_n 0, 1) := by decide +kernel
theorem dX8_at_41 : decode cX8_at 41 = .ok (.aload_n 0, 1) := by decide +kernel
theorem dX8_at_42 : decode cX8_at 42 = .ok (.iload_n 1, 1) := by decide +kernel
theorem dX8_at_43 : decode cX8_at 43 = .ok (.iload_n 2, 1) := by decide +kernel
theorem dX8_at_44 : decode cX8_at 44 = .ok (.invokevirtual 126, 3) := by decide +kernel
theorem dX8_at_47 : decode cX8_at 47 = .ok (.iconst 1, 1) := by decide +kernel
theorem dX8_at_48 : decode cX8_at 48 = .ok (.invokevirtual 130, 3) := by decide +kernel
theorem dX8_at_51 : decode cX8_at 51 = .ok (.goto 8, 3) := by decide +kernel
theorem dX8_at_54 : decode cX8_at 54 = .ok (.aload_n 0, 1) := by decide +kernel
theorem dX8_at_55 : decode cX8_at 55 = .ok (.iconst 2, 1) := by decide +kernel
theorem dX8_at_56 : decode cX8_at 56 = .ok (.invokevirtual 122, 3) := by decide +kernel
theorem dX8_at_59 : decode cX8_at 59 = .ok (.ireturn, 1) := by decide +kernel
theorem dX8_tear_0 : decode cX8_tear 0 = .ok (.iload_n 1, 1) := by decide +kernel
theorem dX8_tear_1 : decode cX8_tear 1 = .ok (.invokestatic 118, 3) := by decide +kernel
theorem dX8_tear_4 : decode cX8_tear 4 = .ok (.ifCond .ne 5, 3) := by decide +kernel
theorem dX8_tear_7 : decode cX8_tear 7 = .ok (.iconst (-1), 1) := by decide +kernel
theorem dX8_tear_8 : decode cX8_tear 8 = .ok (.ireturn, 1) := by decide +kernel
theorem dX8_tear_9 : decode cX8_tear 9 = .ok (.aload_n 0, 1) := by decide +kernel
theorem dX8_tear_10 : decode cX8_tear 10 = .ok (.getfield 13, 3) := by decide +kernel
theorem dX8_tear_13 : decode cX8_tear 13 = .ok (.iload_n 1, 1) := by decide +kernel
theorem dX8_tear_14 : decode cX8_tear 14 = .ok (.iaload, 1) := by decide +kernel
theorem dX8_tear_15 : decode cX8_tear 15 = .ok (.ifCond .ge 9, 3) := by decide +kernel
theorem dX8_tear_18 : decode cX8_tear 18 = .ok (.aload_n 0, 1) := by decide +kernel
theorem dX8_tear_19 : decode cX8_tear 19 = .ok (.iconst 1, 1) := by decide +kernel
theorem dX8_tear_20 : decode cX8_tear 20 = .ok (.invokevirtual 122, 3) := by decide +kernel
theorem dX8_tear_23 : decode cX8_tear 23 = .ok (.ireturn, 1) := by decide +kernel
theorem dX8_tear_24 : decode cX8_tear 24 = .ok (.aload_n 0, 1) := by decide +kernel
theorem dX8_tear_25 : decode cX8_tear 25 = .ok (.getfield 13, 3) := by decide +kernel
theorem dX8_tear_28 : decode cX8_tear 28 = .ok (.iload_n 1, 1) := by decide +kernel
theorem dX8_tear_29 : decode cX8_tear 29 = .ok (.iconst (-1), 1) := by decide +kernel
theorem dX8_tear_30 : decode cX8_tear 30 = .ok (.iastore, 1) := by decide +kernel
theorem dX8_tear_31 : decode cX8_tear 31 = .ok (.iconst 1, 1) := by decide +kernel
theorem dX8_tear_32 : decode cX8_tear 32 = .ok (.ireturn, 1) := by decide +kernel
theorem dX8_copy_0 : decode cX8_copy 0 = .ok (.iload_n 1, 1) := by decide +kernel
theorem dX8_copy_1 : decode cX8_copy 1 = .ok (.invokestatic 118, 3) := by decide +kernel
theorem dX8_copy_4 : decode cX8_copy 4 = .ok (.ifCond .eq 10, 3) := by decide +kernel
theorem dX8_copy_7 : decode cX8_copy 7 = .ok (.iload_n 3, 1) := by decide +kernel
theorem dX8_copy_8 : decode cX8_copy 8 = .ok (.invokestatic 118, 3) := by decide +kernel
theorem dX8_copy_11 : decode cX8_copy 11 = .ok (.ifCond .ne 5, 3) := by decide +kernel
theorem dX8_copy_14 : decode cX8_copy 14 = .ok (.iconst (-1), 1) := by decide +kernel
theorem dX8_copy_15 : decode cX8_copy 15 = .ok (.ireturn, 1) := by decide +kernel
theorem dX8_copy_16 : decode cX8_copy 16 = .ok (.iload 5, 2) := by decide +kernel
theorem dX8_copy_18 : decode cX8_copy 18 = .ok (.ifCond .ge 9, 3) := by decide +kernel
theorem dX8_copy_21 : decode cX8_copy 21 = .ok (.aload_n 0, 1) := by decide +kernel
theorem dX8_copy_22 : decode cX8_copy 22 = .ok (.iconst 5, 1) := by decide +kernel
theorem dX8_copy_23 : decode cX8_copy 23 = .ok (.invokevirtual 122, 3) := by decide +kernel
theorem dX8_copy_26 : decode cX8_copy 26 = .ok (.ireturn, 1) := by decide +kernel
theorem dX8_copy_27 : decode cX8_copy 27 = .ok (.aload_n 0, 1) := by decide +kernel
theorem dX8_copy_28 : decode cX8_copy 28 = .ok (.getfield 13, 3) := by decide +kernel
theorem dX8_copy_31 : decode cX8_copy 31 = .ok (.iload_n 1, 1) := by decide +kernel
theorem dX8_copy_32 : decode cX8_copy 32 = .ok (.iaload, 1) := by decide +kernel
theorem dX8_copy_33 : decode cX8_copy 33 = .ok (.ifCond .lt 12, 3) := by decide +kernel
theorem dX8_copy_36 : decode cX8_copy 36 = .ok (.aload_n 0, 1) := by decide +kernel
theorem dX8_copy_37 : decode cX8_copy 37 = .ok (.getfield 13, 3) := by decide +kernel
theorem dX8_copy_40 : decode cX8_copy 40 = .ok (.iload_n 3, 1) := by decide +kernel
theorem dX8_copy_41 : decode cX8_copy 41 = .ok (.iaload, 1) := by decide +kernel
theorem dX8_copy_42 : decode cX8_copy 42 = .ok (.ifCond .ge 9, 3) := by decide +kernel
theorem dX8_copy_45 : decode cX8_copy 45 = .ok (.aload_n 0, 1) := by decide +kernel
theorem dX8_copy_46 : decode cX8_copy 46 = .ok (.iconst 1, 1) := by decide +kernel
theorem dX8_copy_47 : decode cX8_copy 47 = .ok (.invokevirtual 122, 3) := by decide +kernel
theorem dX8_copy_50 : decode cX8_copy 50 = .ok (.ireturn, 1) := by decide +kernel
theorem dX8_copy_51 : decode cX8_copy 51 = .ok (.iload_n 2, 1) := by decide +kernel
theorem dX8_copy_52 : decode cX8_copy 52 = .ok (.ifCond .lt 43, 3) := by decide +kernel
theorem dX8_copy_55 : decode cX8_copy 55 = .ok (.iload 4, 2) := by decide +kernel
theorem dX8_copy_57 : decode cX8_copy 57 = .ok (.ifCond .lt 38, 3) := by decide +kernel
theorem dX8_copy_60 : decode cX8_copy 60 = .ok (.iload_n 2, 1) := by decide +kernel
theorem dX8_copy_61 : decode cX8_copy 61 = .ok (.i2l, 1) := by decide +kernel
theorem dX8_copy_62 : decode cX8_copy 62 = .ok (.iload 5, 2) := by decide +kernel
theorem dX8_copy_64 : decode cX8_copy 64 = .ok (.i2l, 1) := by decide +kernel
theorem dX8_copy_65 : decode cX8_copy 65 = .ok (.ladd, 1) := by decide +kernel
theorem dX8_copy_66 : decode cX8_copy 66 = .ok (.aload_n 0, 1) := by decide +kernel
theorem dX8_copy_67 : decode cX8_copy 67 = .ok (.getfield 13, 3) := by decide +kernel
theorem dX8_copy_70 : decode cX8_copy 70 = .ok (.iload_n 1, 1) := by decide +kernel
theorem dX8_copy_71 : decode cX8_copy 71 = .ok (.iaload, 1) := by decide +kernel
theorem dX8_copy_72 : decode cX8_copy 72 = .ok (.i2l, 1) := by decide +kernel
theorem dX8_copy_73 : decode cX8_copy 73 = .ok (.lcmp, 1) := by decide +kernel
theorem dX8_copy_74 : decode cX8_copy 74 = .ok (.ifCond .gt 21, 3) := by decide +kernel
theorem dX8_copy_77 : decode cX8_copy 77 = .ok (.iload 4, 2) := by decide +kernel
theorem dX8_copy_79 : decode cX8_copy 79 = .ok (.i2l, 1) := by decide +kernel
theorem dX8_copy_80 : decode cX8_copy 80 = .ok (.iload 5, 2) := by decide +kernel
theorem dX8_copy_82 : decode cX8_copy 82 = .ok (.i2l, 1) := by decide +kernel
theorem dX8_copy_83 : decode cX8_copy 83 = .ok (.ladd, 1) := by decide +kernel
theorem dX8_copy_84 : decode cX8_copy 84 = .ok (.aload_n 0, 1) := by decide +kernel
theorem dX8_copy_85 : decode cX8_copy 85 = .ok (.getfield 13, 3) := by decide +kernel
theorem dX8_copy_88 : decode cX8_copy 88 = .ok (.iload_n 3, 1) := by decide +kernel
theorem dX8_copy_89 : decode cX8_copy 89 = .ok (.iaload, 1) := by decide +kernel
theorem dX8_copy_90 : decode cX8_copy 90 = .ok (.i2l, 1) := by decide +kernel
theorem dX8_copy_91 : decode cX8_copy 91 = .ok (.lcmp, 1) := by decide +kernel
theorem dX8_copy_92 : decode cX8_copy 92 = .ok (.ifCond .le 9, 3) := by decide +kernel
theorem dX8_copy_95 : decode cX8_copy 95 = .ok (.aload_n 0, 1) := by decide +kernel
theorem dX8_copy_96 : decode cX8_copy 96 = .ok (.iconst 2, 1) := by decide +kernel
theorem dX8_copy_97 : decode cX8_copy 97 = .ok (.invokevirtual 122, 3) := by decide +kernel
theorem dX8_copy_100 : decode cX8_copy 100 = .ok (.ireturn, 1) := by decide +kernel
theorem dX8_copy_101 : decode cX8_copy 101 = .ok (.iconst 0, 1) := by decide +kernel
theorem dX8_copy_102 : decode cX8_copy 102 = .ok (.istore 6, 2) := by decide +kernel
theorem dX8_copy_104 : decode cX8_copy 104 = .ok (.iload 6, 2) := by decide +kernel
theorem dX8_copy_106 : decode cX8_copy 106 = .ok (.iload 5, 2) := by decide +kernel
theorem dX8_copy_108 : decode cX8_copy 108 = .ok (.if_icmp .ge 25, 3) := by decide +kernel
theorem dX8_copy_111 : decode cX8_copy 111 = .ok (.aload_n 0, 1) := by decide +kernel
theorem dX8_copy_112 : decode cX8_copy 112 = .ok (.getfield 19, 3) := by decide +kernel
theorem dX8_copy_115 : decode cX8_copy 115 = .ok (.iload 6, 2) := by decide +kernel
theorem dX8_copy_117 : decode cX8_copy 117 = .ok (.aload_n 0, 1) := by decide +kernel
theorem dX8_copy_118 : decode cX8_copy 118 = .ok (.iload_n 1, 1) := by decide +kernel
theorem dX8_copy_119 : decode cX8_copy 119 = .ok (.iload_n 2, 1) := by decide +kernel
theorem dX8_copy_120 : decode cX8_copy 120 = .ok (.iload 6, 2) := by decide +kernel
theorem dX8_copy_122 : decode cX8_copy 122 = .ok (.iadd, 1) := by decide +kernel
theorem dX8_copy_123 : decode cX8_copy 123 = .ok (.invokevirtual 126, 3) := by decide +kernel
theorem dX8_copy_126 : decode cX8_copy 126 = .ok (.iastore, 1) := by decide +kernel
theorem dX8_copy_127 : decode cX8_copy 127 = .ok (.iinc 6 1, 3) := by decide +kernel
theorem dX8_copy_130 : decode cX8_copy 130 = .ok (.goto (-26), 3) := by decide +kernel
theorem dX8_copy_133 : decode cX8_copy 133 = .ok (.iconst 0, 1) := by decide +kernel
theorem dX8_copy_134 : decode cX8_copy 134 = .ok (.istore 6, 2) := by decide +kernel
theorem dX8_copy_136 : decode cX8_copy 136 = .ok (.iload 6, 2) := by decide +kernel
theorem dX8_copy_138 : decode cX8_copy 138 = .ok (.iload 5, 2) := by decide +kernel
theorem dX8_copy_140 : decode cX8_copy 140 = .ok (.if_icmp .ge 31, 3) := by decide +kernel
theorem dX8_copy_143 : decode cX8_copy 143 = .ok (.aload_n 0, 1) := by decide +kernel
theorem dX8_copy_144 : decode cX8_copy 144 = .ok (.getfield 16, 3) := by decide +kernel
theorem dX8_copy_147 : decode cX8_copy 147 = .ok (.bipush 40, 2) := by decide +kernel
theorem dX8_copy_149 : decode cX8_copy 149 = .ok (.iload_n 3, 1) := by decide +kernel
theorem dX8_copy_150 : decode cX8_copy 150 = .ok (.imul, 1) := by decide +kernel
theorem dX8_copy_151 : decode cX8_copy 151 = .ok (.iload 4, 2) := by decide +kernel
theorem dX8_copy_153 : decode cX8_copy 153 = .ok (.iadd, 1) := by decide +kernel
theorem dX8_copy_154 : decode cX8_copy 154 = .ok (.iload 6, 2) := by decide +kernel
theorem dX8_copy_156 : decode cX8_copy 156 = .ok (.iadd, 1) := by decide +kernel
theorem dX8_copy_157 : decode cX8_copy 157 = .ok (.aload_n 0, 1) := by decide +kernel
theorem dX8_copy_158 : decode cX8_copy 158 = .ok (.getfield 19, 3) := by decide +kernel
theorem dX8_copy_161 : decode cX8_copy 161 = .ok (.iload 6, 2) := by decide +kernel
theorem dX8_copy_163 : decode cX8_copy 163 = .ok (.iaload, 1) := by decide +kernel
theorem dX8_copy_164 : decode cX8_copy 164 = .ok (.iastore, 1) := by decide +kernel
theorem dX8_copy_165 : decode cX8_copy 165 = .ok (.iinc 6 1, 3) := by decide +kernel
theorem dX8_copy_168 : decode cX8_copy 168 = .ok (.goto (-32), 3) := by decide +kernel
theorem dX8_copy_171 : decode cX8_copy 171 = .ok (.iconst 1, 1) := by decide +kernel
theorem dX8_copy_172 : decode cX8_copy 172 = .ok (.ireturn, 1) := by decide +kernel
theorem dX8_mean_0 : decode cX8_mean 0 = .ok (.iload_n 1, 1) := by decide +kernel
theorem dX8_mean_1 : decode cX8_mean 1 = .ok (.invokestatic 118, 3) := by decide +kernel
theorem dX8_mean_4 : decode cX8_mean 4 = .ok (.ifCond .ne 5, 3) := by decide +kernel
theorem dX8_mean_7 : decode cX8_mean 7 = .ok (.iconst (-1), 1) := by decide +kernel
theorem dX8_mean_8 : decode cX8_mean 8 = .ok (.ireturn, 1) := by decide +kernel
theorem dX8_mean_9 : decode cX8_mean 9 = .ok (.aload_n 0, 1) := by decide +kernel
theorem dX8_mean_10 : decode cX8_mean 10 = .ok (.getfield 13, 3) := by decide +kernel
theorem dX8_mean_13 : decode cX8_mean 13 = .ok (.iload_n 1, 1) := by decide +kernel
theorem dX8_mean_14 : decode cX8_mean 14 = .ok (.iaload, 1) := by decide +kernel
theorem dX8_mean_15 : decode cX8_mean 15 = .ok (.ifCond .ge 9, 3) := by decide +kernel
theorem dX8_mean_18 : decode cX8_mean 18 = .ok (.aload_n 0, 1) := by decide +kernel
theorem dX8_mean_19 : decode cX8_mean 19 = .ok (.iconst 1, 1) := by decide +kernel
theorem dX8_mean_20 : decode cX8_mean 20 = .ok (.invokevirtual 122, 3) := by decide +kernel
theorem dX8_mean_23 : decode cX8_mean 23 = .ok (.ireturn, 1) := by decide +kernel
theorem dX8_mean_24 : decode cX8_mean 24 = .ok (.aload_n 0, 1) := by decide +kernel
theorem dX8_mean_25 : decode cX8_mean 25 = .ok (.getfield 13, 3) := by decide +kernel
theorem dX8_mean_28 : decode cX8_mean 28 = .ok (.iload_n 1, 1) := by decide +kernel
theorem dX8_mean_29 : decode cX8_mean 29 = .ok (.iaload, 1) := by decide +kernel
theorem dX8_mean_30 : decode cX8_mean 30 = .ok (.ifCond .ne 9, 3) := by decide +kernel
theorem dX8_mean_33 : decode cX8_mean 33 = .ok (.aload_n 0, 1) := by decide +kernel
theorem dX8_mean_34 : decode cX8_mean 34 = .ok (.iconst 4, 1) := by decide +kernel
theorem dX8_mean_35 : decode cX8_mean 35 = .ok (.invokevirtual 122, 3) := by decide +kernel
theorem dX8_mean_38 : decode cX8_mean 38 = .ok (.ireturn, 1) := by decide +kernel
theorem dX8_mean_39 : decode cX8_mean 39 = .ok (.lconst 0, 1) := by decide +kernel
theorem dX8_mean_40 : decode cX8_mean 40 = .ok (.lstore_n 2, 1) := by decide +kernel
theorem dX8_mean_41 : decode cX8_mean 41 = .ok (.iconst 0, 1) := by decide +kernel
theorem dX8_mean_42 : decode cX8_mean 42 = .ok (.istore 4, 2) := by decide +kernel
theorem dX8_mean_44 : decode cX8_mean 44 = .ok (.iload 4, 2) := by decide +kernel
theorem dX8_mean_46 : decode cX8_mean 46 = .ok (.aload_n 0, 1) := by decide +kernel
theorem dX8_mean_47 : decode cX8_mean 47 = .ok (.getfield 13, 3) := by decide +kernel
theorem dX8_mean_50 : decode cX8_mean 50 = .ok (.iload_n 1, 1) := by decide +kernel
theorem dX8_mean_51 : decode cX8_mean 51 = .ok (.iaload, 1) := by decide +kernel
theorem dX8_mean_52 : decode cX8_mean 52 = .ok (.if_icmp .ge 20, 3) := by decide +kernel
theorem dX8_mean_55 : decode cX8_mean 55 = .ok (.lload_n 2, 1) := by decide +kernel
theorem dX8_mean_56 : decode cX8_mean 56 = .ok (.aload_n 0, 1) := by decide +kernel
theorem dX8_mean_57 : decode cX8_mean 57 = .ok (.iload_n 1, 1) := by decide +kernel
theorem dX8_mean_58 : decode cX8_mean 58 = .ok (.iload 4, 2) := by decide +kernel
theorem dX8_mean_60 : decode cX8_mean 60 = .ok (.invokevirtual 126, 3) := by decide +kernel
theorem dX8_mean_63 : decode cX8_mean 63 = .ok (.i2l, 1) := by decide +kernel
theorem dX8_mean_64 : decode cX8_mean 64 = .ok (.ladd, 1) := by decide +kernel
theorem dX8_mean_65 : decode cX8_mean 65 = .ok (.lstore_n 2, 1) := by decide +kernel
theorem dX8_mean_66 : decode cX8_mean 66 = .ok (.iinc 4 1, 3) := by decide +kernel
theorem dX8_mean_69 : decode cX8_mean 69 = .ok (.goto (-25), 3) := by decide +kernel
theorem dX8_mean_72 : decode cX8_mean 72 = .ok (.aload_n 0, 1) := by decide +kernel
theorem dX8_mean_73 : decode cX8_mean 73 = .ok (.lload_n 2, 1) := by decide +kernel
theorem dX8_mean_74 : decode cX8_mean 74 = .ok (.aload_n 0, 1) := by decide +kernel
theorem dX8_mean_75 : decode cX8_mean 75 = .ok (.getfield 13, 3) := by decide +kernel
theorem dX8_mean_78 : decode cX8_mean 78 = .ok (.iload_n 1, 1) := by decide +kernel
theorem dX8_mean_79 : decode cX8_mean 79 = .ok (.iaload, 1) := by decide +kernel
theorem dX8_mean_80 : decode cX8_mean 80 = .ok (.i2l, 1) := by decide +kernel
theorem dX8_mean_81 : decode cX8_mean 81 = .ok (.ldiv, 1) := by decide +kernel
theorem dX8_mean_82 : decode cX8_mean 82 = .ok (.l2i, 1) := by decide +kernel
theorem dX8_mean_83 : decode cX8_mean 83 = .ok (.iconst 1, 1) := by decide +kernel
theorem dX8_mean_84 : decode cX8_mean 84 = .ok (.invokevirtual 130, 3) := by decide +kernel
theorem dX8_mean_87 : decode cX8_mean 87 = .ok (.ireturn, 1) := by decide +kernel
theorem dX8_isText_0 : decode cX8_isText 0 = .ok (.iload_n 0, 1) := by decide +kernel
theorem dX8_isText_1 : decode cX8_isText 1 = .ok (.iconst 0, 1) := by decide +kernel
theorem dX8_isText_2 : decode cX8_isText 2 = .ok (.iconst 3, 1) := by decide +kernel
theorem dX8_isText_3 : decode cX8_isText 3 = .ok (.invokestatic 105, 3) := by decide +kernel
theorem dX8_isText_6 : decode cX8_isText 6 = .ok (.ireturn, 1) := by decide +kernel
theorem dX8_text_0 : decode cX8_text 0 = .ok (.iload_n 1, 1) := by decide +kernel
theorem dX8_text_1 : decode cX8_text 1 = .ok (.invokestatic 133, 3) := by decide +kernel
theorem dX8_text_4 : decode cX8_text 4 = .ok (.ifCond .eq 9, 3) := by decide +kernel
theorem dX8_text_7 : decode cX8_text 7 = .ok (.iload_n 2, 1) := by decide +kernel
theorem dX8_text_8 : decode cX8_text 8 = .ok (.bipush 80, 2) := by decide +kernel
theorem dX8_text_10 : decode cX8_text 10 = .ok (.if_icmp .le 5, 3) := by decide +kernel
theorem dX8_text_13 : decode cX8_text 13 = .ok (.iconst (-1), 1) := by decide +kernel
theorem dX8_text_14 : decode cX8_text 14 = .ok (.ireturn, 1) := by decide +kernel
theorem dX8_text_15 : decode cX8_text 15 = .ok (.iload_n 2, 1) := by decide +kernel
theorem dX8_text_16 : decode cX8_text 16 = .ok (.ifCond .ge 9, 3) := by decide +kernel
theorem dX8_text_19 : decode cX8_text 19 = .ok (.aload_n 0, 1) := by decide +kernel
theorem dX8_text_20 : decode cX8_text 20 = .ok (.iconst 5, 1) := by decide +kernel
theorem dX8_text_21 : decode cX8_text 21 = .ok (.invokevirtual 122, 3) := by decide +kernel
theorem dX8_text_24 : decode cX8_text 24 = .ok (.ireturn, 1) := by decide +kernel
theorem dX8_text_25 : decode cX8_text 25 = .ok (.aload_n 0, 1) := by decide +kernel
theorem dX8_text_26 : decode cX8_text 26 = .ok (.getfield 22, 3) := by decide +kernel
theorem dX8_text_29 : decode cX8_text 29 = .ok (.iload_n 1, 1) := by decide +kernel
theorem dX8_text_30 : decode cX8_text 30 = .ok (.iload_n 2, 1) := by decide +kernel
theorem dX8_text_31 : decode cX8_text 31 = .ok (.iastore, 1) := by decide +kernel
theorem dX8_text_32 : decode cX8_text 32 = .ok (.iconst 0, 1) := by decide +kernel
theorem dX8_text_33 : decode cX8_text 33 = .ok (.istore_n 3, 1) := by decide +kernel
theorem dX8_text_34 : decode cX8_text 34 = .ok (.iload_n 3, 1) := by decide +kernel
theorem dX8_text_35 : decode cX8_text 35 = .ok (.bipush 80, 2) := by decide +kernel
theorem dX8_text_37 : decode cX8_text 37 = .ok (.if_icmp .ge 22, 3) := by decide +kernel
theorem dX8_text_40 : decode cX8_text 40 = .ok (.aload_n 0, 1) := by decide +kernel
theorem dX8_text_41 : decode cX8_text 41 = .ok (.getfield 25, 3) := by decide +kernel
theorem dX8_text_44 : decode cX8_text 44 = .ok (.bipush 80, 2) := by decide +kernel
theorem dX8_text_46 : decode cX8_text 46 = .ok (.iload_n 1, 1) := by decide +kernel
theorem dX8_text_47 : decode cX8_text 47 = .ok (.imul, 1) := by decide +kernel
theorem dX8_text_48 : decode cX8_text 48 = .ok (.iload_n 3, 1) := by decide +kernel
theorem dX8_text_49 : decode cX8_text 49 = .ok (.iadd, 1) := by decide +kernel
theorem dX8_text_50 : decode cX8_text 50 = .ok (.bipush 32, 2) := by decide +kernel
theorem dX8_text_52 : decode cX8_text 52 = .ok (.bastore, 1) := by decide +kernel
theorem dX8_text_53 : decode cX8_text 53 = .ok (.iinc 3 1, 3) := by decide +kernel
theorem dX8_text_56 : decode cX8_text 56 = .ok (.goto (-22), 3) := by decide +kernel
theorem dX8_text_59 : decode cX8_text 59 = .ok (.iload_n 2, 1) := by decide +kernel
theorem dX8_text_60 : decode cX8_text 60 = .ok (.ireturn, 1) := by decide +kernel
theorem dX8_put_0 : decode cX8_put 0 = .ok (.iload_n 1, 1) := by decide +kernel
theorem dX8_put_1 : decode cX8_put 1 = .ok (.invokestatic 133, 3) := by decide +kernel
theorem dX8_put_4 : decode cX8_put 4 = .ok (.ifCond .ne 5, 3) := by decide +kernel
theorem dX8_put_7 : decode cX8_put 7 = .ok (.iconst (-1), 1) := by decide +kernel
theorem dX8_put_8 : decode cX8_put 8 = .ok (.ireturn, 1) := by decide +kernel
theorem dX8_put_9 : decode cX8_put 9 = .ok (.aload_n 0, 1) := by decide +kernel
theorem dX8_put_10 : decode cX8_put 10 = .ok (.getfield 22, 3) := by decide +kernel
theorem dX8_put_13 : decode cX8_put 13 = .ok (.iload_n 1, 1) := by decide +kernel
theorem dX8_put_14 : decode cX8_put 14 = .ok (.iaload, 1) := by decide +kernel
theorem dX8_put_15 : decode cX8_put 15 = .ok (.ifCond .ge 9, 3) := by decide +kernel
theorem dX8_put_18 : decode cX8_put 18 = .ok (.aload_n 0, 1) := by decide +kernel
theorem dX8_put_19 : decode cX8_put 19 = .ok (.iconst 1, 1) := by decide +kernel
theorem dX8_put_20 : decode cX8_put 20 = .ok (.invokevirtual 122, 3) := by decide +kernel
theorem dX8_put_23 : decode cX8_put 23 = .ok (.ireturn, 1) := by decide +kernel
theorem dX8_put_24 : decode cX8_put 24 = .ok (.iload_n 2, 1) := by decide +kernel
theorem dX8_put_25 : decode cX8_put 25 = .ok (.iconst 0, 1) := by decide +kernel
theorem dX8_put_26 : decode cX8_put 26 = .ok (.aload_n 0, 1) := by decide +kernel
theorem dX8_put_27 : decode cX8_put 27 = .ok (.getfield 22, 3) := by decide +kernel
theorem dX8_put_30 : decode cX8_put 30 = .ok (.iload_n 1, 1) := by decide +kernel
theorem dX8_put_31 : decode cX8_put 31 = .ok (.iaload, 1) := by decide +kernel
theorem dX8_put_32 : decode cX8_put 32 = .ok (.iconst 1, 1) := by decide +kernel
theorem dX8_put_33 : decode cX8_put 33 = .ok (.isub, 1) := by decide +kernel
theorem dX8_put_34 : decode cX8_put 34 = .ok (.invokestatic 105, 3) := by decide +kernel
theorem dX8_put_37 : decode cX8_put 37 = .ok (.ifCond .ne 9, 3) := by decide +kernel
theorem dX8_put_40 : decode cX8_put 40 = .ok (.aload_n 0, 1) := by decide +kernel
theorem dX8_put_41 : decode cX8_put 41 = .ok (.iconst 2, 1) := by decide +kernel
theorem dX8_put_42 : decode cX8_put 42 = .ok (.invokevirtual 122, 3) := by decide +kernel
theorem dX8_put_45 : decode cX8_put 45 = .ok (.ireturn, 1) := by decide +kernel
theorem dX8_put_46 : decode cX8_put 46 = .ok (.aload_n 0, 1) := by decide +kernel
theorem dX8_put_47 : decode cX8_put 47 = .ok (.getfield 25, 3) := by decide +kernel
theorem dX8_put_50 : decode cX8_put 50 = .ok (.bipush 80, 2) := by decide +kernel
theorem dX8_put_52 : decode cX8_put 52 = .ok (.iload_n 1, 1) := by decide +kernel
theorem dX8_put_53 : decode cX8_put 53 = .ok (.imul, 1) := by decide +kernel
theorem dX8_put_54 : decode cX8_put 54 = .ok (.iload_n 2, 1) := by decide +kernel
theorem dX8_put_55 : decode cX8_put 55 = .ok (.iadd, 1) := by decide +kernel
theorem dX8_put_56 : decode cX8_put 56 = .ok (.baload, 1) := by decide +kernel
theorem dX8_put_57 : decode cX8_put 57 = .ok (.istore 4, 2) := by decide +kernel
theorem dX8_put_59 : decode cX8_put 59 = .ok (.aload_n 0, 1) := by decide +kernel
theorem dX8_put_60 : decode cX8_put 60 = .ok (.getfield 25, 3) := by decide +kernel
theorem dX8_put_63 : decode cX8_put 63 = .ok (.bipush 80, 2) := by decide +kernel
theorem dX8_put_65 : decode cX8_put 65 = .ok (.iload_n 1, 1) := by decide +kernel
theorem dX8_put_66 : decode cX8_put 66 = .ok (.imul, 1) := by decide +kernel
theorem dX8_put_67 : decode cX8_put 67 = .ok (.iload_n 2, 1) := by decide +kernel
theorem dX8_put_68 : decode cX8_put 68 = .ok (.iadd, 1) := by decide +kernel
theorem dX8_put_69 : decode cX8_put 69 = .ok (.iload_n 3, 1) := by decide +kernel
theorem dX8_put_70 : decode cX8_put 70 = .ok (.i2b, 1) := by decide +kernel
theorem dX8_put_71 : decode cX8_put 71 = .ok (.bastore, 1) := by decide +kernel
theorem dX8_put_72 : decode cX8_put 72 = .ok (.sipush 1000, 3) := by decide +kernel
theorem dX8_put_75 : decode cX8_put 75 = .ok (.iload 4, 2) := by decide +kernel
theorem dX8_put_77 : decode cX8_put 77 = .ok (.iadd, 1) := by decide +kernel
theorem dX8_put_78 : decode cX8_put 78 = .ok (.ireturn, 1) := by decide +kernel
theorem dX8_byteAt_0 : decode cX8_byteAt 0 = .ok (.iload_n 2, 1) := by decide +kernel
theorem dX8_byteAt_1 : decode cX8_byteAt 1 = .ok (.aload_n 0, 1) := by decide +kernel
theorem dX8_byteAt_2 : decode cX8_byteAt 2 = .ok (.getfield 22, 3) := by decide +kernel
theorem dX8_byteAt_5 : decode cX8_byteAt 5 = .ok (.iload_n 1, 1) := by decide +kernel
theorem dX8_byteAt_6 : decode cX8_byteAt 6 = .ok (.iaload, 1) := by decide +kernel
theorem dX8_byteAt_7 : decode cX8_byteAt 7 = .ok (.if_icmp .ge 17, 3) := by decide +kernel
theorem dX8_byteAt_10 : decode cX8_byteAt 10 = .ok (.aload_n 0, 1) := by decide +kernel
theorem dX8_byteAt_11 : decode cX8_byteAt 11 = .ok (.getfield 25, 3) := by decide +kernel
theorem dX8_byteAt_14 : decode cX8_byteAt 14 = .ok (.bipush 80, 2) := by decide +kernel
theorem dX8_byteAt_16 : decode cX8_byteAt 16 = .ok (.iload_n 1, 1) := by decide +kernel
theorem dX8_byteAt_17 : decode cX8_byteAt 17 = .ok (.imul, 1) := by decide +kernel
theorem dX8_byteAt_18 : decode cX8_byteAt 18 = .ok (.iload_n 2, 1) := by decide +kernel
theorem dX8_byteAt_19 : decode cX8_byteAt 19 = .ok (.iadd, 1) := by decide +kernel
theorem dX8_byteAt_20 : decode cX8_byteAt 20 = .ok (.baload, 1) := by decide +kernel
theorem dX8_byteAt_21 : decode cX8_byteAt 21 = .ok (.goto 4, 3) := by decide +kernel
theorem dX8_byteAt_24 : decode cX8_byteAt 24 = .ok (.iconst 0, 1) := by decide +kernel
theorem dX8_byteAt_25 : decode cX8_byteAt 25 = .ok (.ireturn, 1) := by decide +kernel
theorem dX8_sign_0 : decode cX8_sign 0 = .ok (.aload_n 0, 1) := by decide +kernel
theorem dX8_sign_1 : decode cX8_sign 1 = .ok (.iload_n 1, 1) := by decide +kernel
theorem dX8_sign_2 : decode cX8_sign 2 = .ok (.aload_n 0, 1) := by decide +kernel
theorem dX8_sign_3 : decode cX8_sign 3 = .ok (.getfield 136, 3) := by decide +kernel
theorem dX8_sign_6 : decode cX8_sign 6 = .ok (.invokevirtual 139, 3) := by decide +kernel
theorem dX8_sign_9 : decode cX8_sign 9 = .ok (.iload_n 2, 1) := by decide +kernel
theorem dX8_sign_10 : decode cX8_sign 10 = .ok (.if_icmp .ne 7, 3) := by decide +kernel
theorem dX8_sign_13 : decode cX8_sign 13 = .ok (.iconst 1, 1) := by decide +kernel
theorem dX8_sign_14 : decode cX8_sign 14 = .ok (.goto 4, 3) := by decide +kernel
theorem dX8_sign_17 : decode cX8_sign 17 = .ok (.iconst 0, 1) := by decide +kernel
theorem dX8_sign_18 : decode cX8_sign 18 = .ok (.istore_n 3, 1) := by decide +kernel
theorem dX8_sign_19 : decode cX8_sign 19 = .ok (.aload_n 0, 1) := by decide +kernel
theorem dX8_sign_20 : decode cX8_sign 20 = .ok (.dup, 1) := by decide +kernel
theorem dX8_sign_21 : decode cX8_sign 21 = .ok (.getfield 136, 3) := by decide +kernel
theorem dX8_sign_24 : decode cX8_sign 24 = .ok (.iload_n 3, 1) := by decide +kernel
theorem dX8_sign_25 : decode cX8_sign 25 = .ok (.ifCond .eq 7, 3) := by decide +kernel
theorem dX8_sign_28 : decode cX8_sign 28 = .ok (.iconst 1, 1) := by decide +kernel
theorem dX8_sign_29 : decode cX8_sign 29 = .ok (.goto 4, 3) := by decide +kernel
theorem dX8_sign_32 : decode cX8_sign 32 = .ok (.iconst 0, 1) := by decide +kernel
theorem dX8_sign_33 : decode cX8_sign 33 = .ok (.iadd, 1) := by decide +kernel
theorem dX8_sign_34 : decode cX8_sign 34 = .ok (.putfield 136, 3) := by decide +kernel
theorem dX8_sign_37 : decode cX8_sign 37 = .ok (.iload_n 3, 1) := by decide +kernel
theorem dX8_sign_38 : decode cX8_sign 38 = .ok (.ireturn, 1) := by decide +kernel
theorem dX8_figure_0 : decode cX8_figure 0 = .ok (.aload_n 0, 1) := by decide +kernel
theorem dX8_figure_1 : decode cX8_figure 1 = .ok (.aload_n 0, 1) := by decide +kernel
theorem dX8_figure_2 : decode cX8_figure 2 = .ok (.iload_n 1, 1) := by decide +kernel
theorem dX8_figure_3 : decode cX8_figure 3 = .ok (.aload_n 0, 1) := by decide +kernel
theorem dX8_figure_4 : decode cX8_figure 4 = .ok (.getfield 136, 3) := by decide +kernel
theorem dX8_figure_7 : decode cX8_figure 7 = .ok (.invokevirtual 139, 3) := by decide +kernel
theorem dX8_figure_10 : decode cX8_figure 10 = .ok (.bipush 48, 2) := by decide +kernel
theorem dX8_figure_12 : decode cX8_figure 12 = .ok (.isub, 1) := by decide +kernel
theorem dX8_figure_13 : decode cX8_figure 13 = .ok (.putfield 142, 3) := by decide +kernel
theorem dX8_figure_16 : decode cX8_figure 16 = .ok (.aload_n 0, 1) := by decide +kernel
theorem dX8_figure_17 : decode cX8_figure 17 = .ok (.getfield 142, 3) := by decide +kernel
theorem dX8_figure_20 : decode cX8_figure 20 = .ok (.iconst 0, 1) := by decide +kernel
theorem dX8_figure_21 : decode cX8_figure 21 = .ok (.bipush 9, 2) := by decide +kernel
theorem dX8_figure_23 : decode cX8_figure 23 = .ok (.invokestatic 105, 3) := by decide +kernel
theorem dX8_figure_26 : decode cX8_figure 26 = .ok (.ifCond .eq 19, 3) := by decide +kernel
theorem dX8_figure_29 : decode cX8_figure 29 = .ok (.aload_n 0, 1) := by decide +kernel
theorem dX8_figure_30 : decode cX8_figure 30 = .ok (.getfield 142, 3) := by decide +kernel
theorem dX8_figure_33 : decode cX8_figure 33 = .ok (.iload_n 2, 1) := by decide +kernel
theorem dX8_figure_34 : decode cX8_figure 34 = .ok (.iload_n 3, 1) := by decide +kernel
theorem dX8_figure_35 : decode cX8_figure 35 = .ok (.invokestatic 105, 3) := by decide +kernel
theorem dX8_figure_38 : decode cX8_figure 38 = .ok (.ifCond .eq 7, 3) := by decide +kernel
theorem dX8_figure_41 : decode cX8_figure 41 = .ok (.iconst 1, 1) := by decide +kernel
theorem dX8_figure_42 : decode cX8_figure 42 = .ok (.goto 4, 3) := by decide +kernel
theorem dX8_figure_45 : decode cX8_figure 45 = .ok (.iconst 0, 1) := by decide +kernel
theorem dX8_figure_46 : decode cX8_figure 46 = .ok (.istore 4, 2) := by decide +kernel
theorem dX8_figure_48 : decode cX8_figure 48 = .ok (.aload_n 0, 1) := by decide +kernel
theorem dX8_figure_49 : decode cX8_figure 49 = .ok (.dup, 1) := by decide +kernel
theorem dX8_figure_50 : decode cX8_figure 50 = .ok (.getfield 136, 3) := by decide +kernel
theorem dX8_figure_53 : decode cX8_figure 53 = .ok (.iload 4, 2) := by decide +kernel
theorem dX8_figure_55 : decode cX8_figure 55 = .ok (.ifCond .eq 7, 3) := by decide +kernel
theorem dX8_figure_58 : decode cX8_figure 58 = .ok (.iconst 1, 1) := by decide +kernel
theorem dX8_figure_59 : decode cX8_figure 59 = .ok (.goto 4, 3) := by decide +kernel
theorem dX8_figure_62 : decode cX8_figure 62 = .ok (.iconst 0, 1) := by decide +kernel
theorem dX8_figure_63 : decode cX8_figure 63 = .ok (.iadd, 1) := by decide +kernel
theorem dX8_figure_64 : decode cX8_figure 64 = .ok (.putfield 136, 3) := by decide +kernel
theorem dX8_figure_67 : decode cX8_figure 67 = .ok (.iload 4, 2) := by decide +kernel
theorem dX8_figure_69 : decode cX8_figure 69 = .ok (.ireturn, 1) := by decide +kernel
theorem dX8_minute_0 : decode cX8_minute 0 = .ok (.iconst 0, 1) := by decide +kernel
theorem dX8_minute_1 : decode cX8_minute 1 = .ok (.istore 4, 2) := by decide +kernel
theorem dX8_minute_3 : decode cX8_minute 3 = .ok (.iconst 0, 1) := by decide +kernel
theorem dX8_minute_4 : decode cX8_minute 4 = .ok (.istore 5, 2) := by decide +kernel
theorem dX8_minute_6 : decode cX8_minute 6 = .ok (.iload 4, 2) := by decide +kernel
theorem dX8_minute_8 : decode cX8_minute 8 = .ok (.iconst 2, 1) := by decide +kernel
theorem dX8_minute_9 : decode cX8_minute 9 = .ok (.if_icmp .ge 58, 3) := by decide +kernel
theorem dX8_minute_12 : decode cX8_minute 12 = .ok (.aload_n 0, 1) := by decide +kernel
theorem dX8_minute_13 : decode cX8_minute 13 = .ok (.iload_n 1, 1) := by decide +kernel
theorem dX8_minute_14 : decode cX8_minute 14 = .ok (.aload_n 0, 1) := by decide +kernel
theorem dX8_minute_15 : decode cX8_minute 15 = .ok (.getfield 136, 3) := by decide +kernel
theorem dX8_minute_18 : decode cX8_minute 18 = .ok (.invokevirtual 139, 3) := by decide +kernel
theorem dX8_minute_21 : decode cX8_minute 21 = .ok (.bipush 48, 2) := by decide +kernel
theorem dX8_minute_23 : decode cX8_minute 23 = .ok (.bipush 57, 2) := by decide +kernel
theorem dX8_minute_25 : decode cX8_minute 25 = .ok (.invokestatic 105, 3) := by decide +kernel
theorem dX8_minute_28 : decode cX8_minute 28 = .ok (.ifCond .eq 39, 3) := by decide +kernel
theorem dX8_minute_31 : decode cX8_minute 31 = .ok (.bipush 10, 2) := by decide +kernel
theorem dX8_minute_33 : decode cX8_minute 33 = .ok (.iload 5, 2) := by decide +kernel
theorem dX8_minute_35 : decode cX8_minute 35 = .ok (.imul, 1) := by decide +kernel
theorem dX8_minute_36 : decode cX8_minute 36 = .ok (.aload_n 0, 1) := by decide +kernel
theorem dX8_minute_37 : decode cX8_minute 37 = .ok (.iload_n 1, 1) := by decide +kernel
theorem dX8_minute_38 : decode cX8_minute 38 = .ok (.aload_n 0, 1) := by decide +kernel
theorem dX8_minute_39 : decode cX8_minute 39 = .ok (.getfield 136, 3) := by decide +kernel
theorem dX8_minute_42 : decode cX8_minute 42 = .ok (.invokevirtual 139, 3) := by decide +kernel
theorem dX8_minute_45 : decode cX8_minute 45 = .ok (.iadd, 1) := by decide +kernel
theorem dX8_minute_46 : decode cX8_minute 46 = .ok (.bipush 48, 2) := by decide +kernel
theorem dX8_minute_48 : decode cX8_minute 48 = .ok (.isub, 1) := by decide +kernel
theorem dX8_minute_49 : decode cX8_minute 49 = .ok (.istore 5, 2) := by decide +kernel
theorem dX8_minute_51 : decode cX8_minute 51 = .ok (.aload_n 0, 1) := by decide +kernel
theorem dX8_minute_52 : decode cX8_minute 52 = .ok (.dup, 1) := by decide +kernel
theorem dX8_minute_53 : decode cX8_minute 53 = .ok (.getfield 136, 3) := by decide +kernel
theorem dX8_minute_56 : decode cX8_minute 56 = .ok (.iconst 1, 1) := by decide +kernel
theorem dX8_minute_57 : decode cX8_minute 57 = .ok (.iadd, 1) := by decide +kernel
theorem dX8_minute_58 : decode cX8_minute 58 = .ok (.putfield 136, 3) := by decide +kernel
theorem dX8_minute_61 : decode cX8_minute 61 = .ok (.iinc 4 1, 3) := by decide +kernel
theorem dX8_minute_64 : decode cX8_minute 64 = .ok (.goto (-58), 3) := by decide +kernel
theorem dX8_minute_67 : decode cX8_minute 67 = .ok (.aload_n 0, 1) := by decide +kernel
theorem dX8_minute_68 : decode cX8_minute 68 = .ok (.iload 5, 2) := by decide +kernel
theorem dX8_minute_70 : decode cX8_minute 70 = .ok (.putfield 142, 3) := by decide +kernel
theorem dX8_minute_73 : decode cX8_minute 73 = .ok (.iload 4, 2) := by decide +kernel
theorem dX8_minute_75 : decode cX8_minute 75 = .ok (.ifCond .le 17, 3) := by decide +kernel
theorem dX8_minute_78 : decode cX8_minute 78 = .ok (.iload 5, 2) := by decide +kernel
theorem dX8_minute_80 : decode cX8_minute 80 = .ok (.iload_n 2, 1) := by decide +kernel
theorem dX8_minute_81 : decode cX8_minute 81 = .ok (.iload_n 3, 1) := by decide +kernel
theorem dX8_minute_82 : decode cX8_minute 82 = .ok (.invokestatic 105, 3) := by decide +kernel
theorem dX8_minute_85 : decode cX8_minute 85 = .ok (.ifCond .eq 7, 3) := by decide +kernel
theorem dX8_minute_88 : decode cX8_minute 88 = .ok (.iconst 1, 1) := by decide +kernel
theorem dX8_minute_89 : decode cX8_minute 89 = .ok (.goto 4, 3) := by decide +kernel
theorem dX8_minute_92 : decode cX8_minute 92 = .ok (.iconst 0, 1) := by decide +kernel
theorem dX8_minute_93 : decode cX8_minute 93 = .ok (.ireturn, 1) := by decide +kernel
theorem dX8_readsDoor_0 : decode cX8_readsDoor 0 = .ok (.aload_n 0, 1) := by decide +kernel
theorem dX8_readsDoor_1 : decode cX8_readsDoor 1 = .ok (.getfield 145, 3) := by decide +kernel
theorem dX8_readsDoor_4 : decode cX8_readsDoor 4 = .ok (.bipush 8, 2) := by decide +kernel
theorem dX8_readsDoor_6 : decode cX8_readsDoor 6 = .ok (.if_icmp .ne 5, 3) := by decide +kernel
theorem dX8_readsDoor_9 : decode cX8_readsDoor 9 = .ok (.iconst 0, 1) := by decide +kernel
theorem dX8_readsDoor_10 : decode cX8_readsDoor 10 = .ok (.ireturn, 1) := by decide +kernel
theorem dX8_readsDoor_11 : decode cX8_readsDoor 11 = .ok (.aload_n 0, 1) := by decide +kernel
theorem dX8_readsDoor_12 : decode cX8_readsDoor 12 = .ok (.dup, 1) := by decide +kernel
theorem dX8_readsDoor_13 : decode cX8_readsDoor 13 = .ok (.getfield 136, 3) := by decide +kernel
theorem dX8_readsDoor_16 : decode cX8_readsDoor 16 = .ok (.iconst 1, 1) := by decide +kernel
theorem dX8_readsDoor_17 : decode cX8_readsDoor 17 = .ok (.iadd, 1) := by decide +kernel
theorem dX8_readsDoor_18 : decode cX8_readsDoor 18 = .ok (.putfield 136, 3) := by decide +kernel
theorem dX8_readsDoor_21 : decode cX8_readsDoor 21 = .ok (.aload_n 0, 1) := by decide +kernel
theorem dX8_readsDoor_22 : decode cX8_readsDoor 22 = .ok (.iload_n 1, 1) := by decide +kernel
theorem dX8_readsDoor_23 : decode cX8_readsDoor 23 = .ok (.iconst 0, 1) := by decide +kernel
theorem dX8_readsDoor_24 : decode cX8_readsDoor 24 = .ok (.aload_n 0, 1) := by decide +kernel
theorem dX8_readsDoor_25 : decode cX8_readsDoor 25 = .ok (.getfield 148, 3) := by decide +kernel
theorem dX8_readsDoor_28 : decode cX8_readsDoor 28 = .ok (.iconst 1, 1) := by decide +kernel
theorem dX8_readsDoor_29 : decode cX8_readsDoor 29 = .ok (.isub, 1) := by decide +kernel
theorem dX8_readsDoor_30 : decode cX8_readsDoor 30 = .ok (.invokevirtual 151, 3) := by decide +kernel
theorem dX8_readsDoor_33 : decode cX8_readsDoor 33 = .ok (.ifCond .ne 5, 3) := by decide +kernel
theorem dX8_readsDoor_36 : decode cX8_readsDoor 36 = .ok (.iconst 0, 1) := by decide +kernel
theorem dX8_readsDoor_37 : decode cX8_readsDoor 37 = .ok (.ireturn, 1) := by decide +kernel
theorem dX8_readsDoor_38 : decode cX8_readsDoor 38 = .ok (.aload_n 0, 1) := by decide +kernel
theorem dX8_readsDoor_39 : decode cX8_readsDoor 39 = .ok (.getfield 142, 3) := by decide +kernel
theorem dX8_readsDoor_42 : decode cX8_readsDoor 42 = .ok (.istore_n 3, 1) := by decide +kernel
theorem dX8_readsDoor_43 : decode cX8_readsDoor 43 = .ok (.aload_n 0, 1) := by decide +kernel
theorem dX8_readsDoor_44 : decode cX8_readsDoor 44 = .ok (.iload_n 1, 1) := by decide +kernel
theorem dX8_readsDoor_45 : decode cX8_readsDoor 45 = .ok (.bipush 45, 2) := by decide +kernel
theorem dX8_readsDoor_47 : decode cX8_readsDoor 47 = .ok (.invokevirtual 154, 3) := by decide +kernel
theorem dX8_readsDoor_50 : decode cX8_readsDoor 50 = .ok (.ifCond .eq 34, 3) := by decide +kernel
theorem dX8_readsDoor_53 : decode cX8_readsDoor 53 = .ok (.aload_n 0, 1) := by decide +kernel
theorem dX8_readsDoor_54 : decode cX8_readsDoor 54 = .ok (.iload_n 1, 1) := by decide +kernel
theorem dX8_readsDoor_55 : decode cX8_readsDoor 55 = .ok (.aload_n 0, 1) := by decide +kernel
theorem dX8_readsDoor_56 : decode cX8_readsDoor 56 = .ok (.getfield 136, 3) := by decide +kernel
theorem dX8_readsDoor_59 : decode cX8_readsDoor 59 = .ok (.invokevirtual 139, 3) := by decide +kernel
theorem dX8_readsDoor_62 : decode cX8_readsDoor 62 = .ok (.bipush 48, 2) := by decide +kernel
theorem dX8_readsDoor_64 : decode cX8_readsDoor 64 = .ok (.iload_n 3, 1) := by decide +kernel
theorem dX8_readsDoor_65 : decode cX8_readsDoor 65 = .ok (.iadd, 1) := by decide +kernel
theorem dX8_readsDoor_66 : decode cX8_readsDoor 66 = .ok (.if_icmp .eq 18, 3) := by decide +kernel
theorem dX8_readsDoor_69 : decode cX8_readsDoor 69 = .ok (.aload_n 0, 1) := by decide +kernel
theorem dX8_readsDoor_70 : decode cX8_readsDoor 70 = .ok (.iload_n 1, 1) := by decide +kernel
theorem dX8_readsDoor_71 : decode cX8_readsDoor 71 = .ok (.iconst 0, 1) := by decide +kernel
theorem dX8_readsDoor_72 : decode cX8_readsDoor 72 = .ok (.aload_n 0, 1) := by decide +kernel
theorem dX8_readsDoor_73 : decode cX8_readsDoor 73 = .ok (.getfield 148, 3) := by decide +kernel
theorem dX8_readsDoor_76 : decode cX8_readsDoor 76 = .ok (.iconst 1, 1) := by decide +kernel
theorem dX8_readsDoor_77 : decode cX8_readsDoor 77 = .ok (.isub, 1) := by decide +kernel
theorem dX8_readsDoor_78 : decode cX8_readsDoor 78 = .ok (.invokevirtual 151, 3) := by decide +kernel
theorem dX8_readsDoor_81 : decode cX8_readsDoor 81 = .ok (.ifCond .ne 5, 3) := by decide +kernel
theorem dX8_readsDoor_84 : decode cX8_readsDoor 84 = .ok (.iconst 0, 1) := by decide +kernel
theorem dX8_readsDoor_85 : decode cX8_readsDoor 85 = .ok (.ireturn, 1) := by decide +kernel
theorem dX8_readsDoor_86 : decode cX8_readsDoor 86 = .ok (.aload_n 0, 1) := by decide +kernel
theorem dX8_readsDoor_87 : decode cX8_readsDoor 87 = .ok (.getfield 142, 3) := by decide +kernel
theorem dX8_readsDoor_90 : decode cX8_readsDoor 90 = .ok (.istore 4, 2) := by decide +kernel
theorem dX8_readsDoor_92 : decode cX8_readsDoor 92 = .ok (.aload_n 0, 1) := by decide +kernel
theorem dX8_readsDoor_93 : decode cX8_readsDoor 93 = .ok (.getfield 35, 3) := by decide +kernel
theorem dX8_readsDoor_96 : decode cX8_readsDoor 96 = .ok (.iconst 3, 1) := by decide +kernel
theorem dX8_readsDoor_97 : decode cX8_readsDoor 97 = .ok (.aload_n 0, 1) := by decide +kernel
theorem dX8_readsDoor_98 : decode cX8_readsDoor 98 = .ok (.getfield 145, 3) := by decide +kernel
theorem dX8_readsDoor_101 : decode cX8_readsDoor 101 = .ok (.imul, 1) := by decide +kernel
theorem dX8_readsDoor_102 : decode cX8_readsDoor 102 = .ok (.iload_n 3, 1) := by decide +kernel
theorem dX8_readsDoor_103 : decode cX8_readsDoor 103 = .ok (.iload 4, 2) := by decide +kernel
theorem dX8_readsDoor_105 : decode cX8_readsDoor 105 = .ok (.if_icmp .ge 7, 3) := by decide +kernel
theorem dX8_readsDoor_108 : decode cX8_readsDoor 108 = .ok (.iload_n 3, 1) := by decide +kernel
theorem dX8_readsDoor_109 : decode cX8_readsDoor 109 = .ok (.goto 5, 3) := by decide +kernel
theorem dX8_readsDoor_112 : decode cX8_readsDoor 112 = .ok (.iload 4, 2) := by decide +kernel
theorem dX8_readsDoor_114 : decode cX8_readsDoor 114 = .ok (.iastore, 1) := by decide +kernel
theorem dX8_readsDoor_115 : decode cX8_readsDoor 115 = .ok (.aload_n 0, 1) := by decide +kernel
theorem dX8_readsDoor_116 : decode cX8_readsDoor 116 = .ok (.getfield 35, 3) := by decide +kernel
theorem dX8_readsDoor_119 : decode cX8_readsDoor 119 = .ok (.iconst 3, 1) := by decide +kernel
theorem dX8_readsDoor_120 : decode cX8_readsDoor 120 = .ok (.aload_n 0, 1) := by decide +kernel
theorem dX8_readsDoor_121 : decode cX8_readsDoor 121 = .ok (.getfield 145, 3) := by decide +kernel
theorem dX8_readsDoor_124 : decode cX8_readsDoor 124 = .ok (.imul, 1) := by decide +kernel
theorem dX8_readsDoor_125 : decode cX8_readsDoor 125 = .ok (.iconst 1, 1) := by decide +kernel
theorem dX8_readsDoor_126 : decode cX8_readsDoor 126 = .ok (.iadd, 1) := by decide +kernel
theorem dX8_readsDoor_127 : decode cX8_readsDoor 127 = .ok (.iload_n 3, 1) := by decide +kernel
theorem dX8_readsDoor_128 : decode cX8_readsDoor 128 = .ok (.iload 4, 2) := by decide +kernel
theorem dX8_readsDoor_130 : decode cX8_readsDoor 130 = .ok (.if_icmp .ge 8, 3) := by decide +kernel
theorem dX8_readsDoor_133 : decode cX8_readsDoor 133 = .ok (.iload 4, 2) := by decide +kernel
theorem dX8_readsDoor_135 : decode cX8_readsDoor 135 = .ok (.goto 4, 3) := by decide +kernel
theorem dX8_readsDoor_138 : decode cX8_readsDoor 138 = .ok (.iload_n 3, 1) := by decide +kernel
theorem dX8_readsDoor_139 : decode cX8_readsDoor 139 = .ok (.iastore, 1) := by decide +kernel
theorem dX8_readsDoor_140 : decode cX8_readsDoor 140 = .ok (.aload_n 0, 1) := by decide +kernel
theorem dX8_readsDoor_141 : decode cX8_readsDoor 141 = .ok (.getfield 35, 3) := by decide +kernel
theorem dX8_readsDoor_144 : decode cX8_readsDoor 144 = .ok (.iconst 3, 1) := by decide +kernel
theorem dX8_readsDoor_145 : decode cX8_readsDoor 145 = .ok (.aload_n 0, 1) := by decide +kernel
theorem dX8_readsDoor_146 : decode cX8_readsDoor 146 = .ok (.getfield 145, 3) := by decide +kernel
theorem dX8_readsDoor_149 : decode cX8_readsDoor 149 = .ok (.imul, 1) := by decide +kernel
theorem dX8_readsDoor_150 : decode cX8_readsDoor 150 = .ok (.iconst 2, 1) := by decide +kernel
theorem dX8_readsDoor_151 : decode cX8_readsDoor 151 = .ok (.iadd, 1) := by decide +kernel
theorem dX8_readsDoor_152 : decode cX8_readsDoor 152 = .ok (.iload_n 2, 1) := by decide +kernel
theorem dX8_readsDoor_153 : decode cX8_readsDoor 153 = .ok (.iastore, 1) := by decide +kernel
theorem dX8_readsDoor_154 : decode cX8_readsDoor 154 = .ok (.aload_n 0, 1) := by decide +kernel
theorem dX8_readsDoor_155 : decode cX8_readsDoor 155 = .ok (.dup, 1) := by decide +kernel
theorem dX8_readsDoor_156 : decode cX8_readsDoor 156 = .ok (.getfield 145, 3) := by decide +kernel
theorem dX8_readsDoor_159 : decode cX8_readsDoor 159 = .ok (.iconst 1, 1) := by decide +kernel
theorem dX8_readsDoor_160 : decode cX8_readsDoor 160 = .ok (.iadd, 1) := by decide +kernel
theorem dX8_readsDoor_161 : decode cX8_readsDoor 161 = .ok (.putfield 145, 3) := by decide +kernel
theorem dX8_readsDoor_164 : decode cX8_readsDoor 164 = .ok (.iconst 1, 1) := by decide +kernel
theorem dX8_readsDoor_165 : decode cX8_readsDoor 165 = .ok (.ireturn, 1) := by decide +kernel
theorem dX8_readsWalker_0 : decode cX8_readsWalker 0 = .ok (.aload_n 0, 1) := by decide +kernel
theorem dX8_readsWalker_1 : decode cX8_readsWalker 1 = .ok (.getfield 158, 3) := by decide +kernel
theorem dX8_readsWalker_4 : decode cX8_readsWalker 4 = .ok (.iconst 3, 1) := by decide +kernel
theorem dX8_readsWalker_5 : decode cX8_readsWalker 5 = .ok (.if_icmp .ne 5, 3) := by decide +kernel
theorem dX8_readsWalker_8 : decode cX8_readsWalker 8 = .ok (.iconst 0, 1) := by decide +kernel
theorem dX8_readsWalker_9 : decode cX8_readsWalker 9 = .ok (.ireturn, 1) := by decide +kernel
theorem dX8_readsWalker_10 : decode cX8_readsWalker 10 = .ok (.aload_n 0, 1) := by decide +kernel
theorem dX8_readsWalker_11 : decode cX8_readsWalker 11 = .ok (.dup, 1) := by decide +kernel
theorem dX8_readsWalker_12 : decode cX8_readsWalker 12 = .ok (.getfield 136, 3) := by decide +kernel
theorem dX8_readsWalker_15 : decode cX8_readsWalker 15 = .ok (.iconst 1, 1) := by decide +kernel
theorem dX8_readsWalker_16 : decode cX8_readsWalker 16 = .ok (.iadd, 1) := by decide +kernel
theorem dX8_readsWalker_17 : decode cX8_readsWalker 17 = .ok (.putfield 136, 3) := by decide +kernel
theorem dX8_readsWalker_20 : decode cX8_readsWalker 20 = .ok (.aload_n 0, 1) := by decide +kernel
theorem dX8_readsWalker_21 : decode cX8_readsWalker 21 = .ok (.iload_n 1, 1) := by decide +kernel
theorem dX8_readsWalker_22 : decode cX8_readsWalker 22 = .ok (.iconst 1, 1) := by decide +kernel
theorem dX8_readsWalker_23 : decode cX8_readsWalker 23 = .ok (.iconst 2, 1) := by decide +kernel
theorem dX8_readsWalker_24 : decode cX8_readsWalker 24 = .ok (.invokevirtual 151, 3) := by decide +kernel
theorem dX8_readsWalker_27 : decode cX8_readsWalker 27 = .ok (.ifCond .ne 5, 3) := by decide +kernel
theorem dX8_readsWalker_30 : decode cX8_readsWalker 30 = .ok (.iconst 0, 1) := by decide +kernel
theorem dX8_readsWalker_31 : decode cX8_readsWalker 31 = .ok (.ireturn, 1) := by decide +kernel
theorem dX8_readsWalker_32 : decode cX8_readsWalker 32 = .ok (.aload_n 0, 1) := by decide +kernel
theorem dX8_readsWalker_33 : decode cX8_readsWalker 33 = .ok (.getfield 142, 3) := by decide +kernel
theorem dX8_readsWalker_36 : decode cX8_readsWalker 36 = .ok (.istore_n 2, 1) := by decide +kernel
theorem dX8_readsWalker_37 : decode cX8_readsWalker 37 = .ok (.aload_n 0, 1) := by decide +kernel
theorem dX8_readsWalker_38 : decode cX8_readsWalker 38 = .ok (.iload_n 1, 1) := by decide +kernel
theorem dX8_readsWalker_39 : decode cX8_readsWalker 39 = .ok (.bipush 58, 2) := by decide +kernel
theorem dX8_readsWalker_41 : decode cX8_readsWalker 41 = .ok (.invokevirtual 154, 3) := by decide +kernel
theorem dX8_readsWalker_44 : decode cX8_readsWalker 44 = .ok (.ifCond .ne 5, 3) := by decide +kernel
theorem dX8_readsWalker_47 : decode cX8_readsWalker 47 = .ok (.iconst 0, 1) := by decide +kernel
theorem dX8_readsWalker_48 : decode cX8_readsWalker 48 = .ok (.ireturn, 1) := by decide +kernel
theorem dX8_readsWalker_49 : decode cX8_readsWalker 49 = .ok (.iconst 0, 1) := by decide +kernel
theorem dX8_readsWalker_50 : decode cX8_readsWalker 50 = .ok (.istore_n 3, 1) := by decide +kernel
theorem dX8_readsWalker_51 : decode cX8_readsWalker 51 = .ok (.aload_n 0, 1) := by decide +kernel
theorem dX8_readsWalker_52 : decode cX8_readsWalker 52 = .ok (.iload_n 1, 1) := by decide +kernel
theorem dX8_readsWalker_53 : decode cX8_readsWalker 53 = .ok (.bipush 42, 2) := by decide +kernel
theorem dX8_readsWalker_55 : decode cX8_readsWalker 55 = .ok (.invokevirtual 154, 3) := by decide +kernel
theorem dX8_readsWalker_58 : decode cX8_readsWalker 58 = .ok (.ifCond .eq 15, 3) := by decide +kernel
theorem dX8_readsWalker_61 : decode cX8_readsWalker 61 = .ok (.iconst 1, 1) := by decide +kernel
theorem dX8_readsWalker_62 : decode cX8_readsWalker 62 = .ok (.aload_n 0, 1) := by decide +kernel
theorem dX8_readsWalker_63 : decode cX8_readsWalker 63 = .ok (.getfield 148, 3) := by decide +kernel
theorem dX8_readsWalker_66 : decode cX8_readsWalker 66 = .ok (.ishl, 1) := by decide +kernel
theorem dX8_readsWalker_67 : decode cX8_readsWalker 67 = .ok (.iconst 1, 1) := by decide +kernel
theorem dX8_readsWalker_68 : decode cX8_readsWalker 68 = .ok (.isub, 1) := by decide +kernel
theorem dX8_readsWalker_69 : decode cX8_readsWalker 69 = .ok (.istore_n 3, 1) := by decide +kernel
theorem dX8_readsWalker_70 : decode cX8_readsWalker 70 = .ok (.goto 63, 3) := by decide +kernel
theorem dX8_readsWalker_73 : decode cX8_readsWalker 73 = .ok (.iconst 0, 1) := by decide +kernel
theorem dX8_readsWalker_74 : decode cX8_readsWalker 74 = .ok (.istore 4, 2) := by decide +kernel
theorem dX8_readsWalker_76 : decode cX8_readsWalker 76 = .ok (.aload_n 0, 1) := by decide +kernel
theorem dX8_readsWalker_77 : decode cX8_readsWalker 77 = .ok (.iload_n 1, 1) := by decide +kernel
theorem dX8_readsWalker_78 : decode cX8_readsWalker 78 = .ok (.aload_n 0, 1) := by decide +kernel
theorem dX8_readsWalker_79 : decode cX8_readsWalker 79 = .ok (.getfield 136, 3) := by decide +kernel
theorem dX8_readsWalker_82 : decode cX8_readsWalker 82 = .ok (.invokevirtual 139, 3) := by decide +kernel
theorem dX8_readsWalker_85 : decode cX8_readsWalker 85 = .ok (.bipush 48, 2) := by decide +kernel
theorem dX8_readsWalker_87 : decode cX8_readsWalker 87 = .ok (.bipush 57, 2) := by decide +kernel
theorem dX8_readsWalker_89 : decode cX8_readsWalker 89 = .ok (.invokestatic 105, 3) := by decide +kernel
theorem dX8_readsWalker_92 : decode cX8_readsWalker 92 = .ok (.ifCond .eq 41, 3) := by decide +kernel
theorem dX8_readsWalker_95 : decode cX8_readsWalker 95 = .ok (.aload_n 0, 1) := by decide +kernel
theorem dX8_readsWalker_96 : decode cX8_readsWalker 96 = .ok (.iload_n 1, 1) := by decide +kernel
theorem dX8_readsWalker_97 : decode cX8_readsWalker 97 = .ok (.iload 4, 2) := by decide +kernel
theorem dX8_readsWalker_99 : decode cX8_readsWalker 99 = .ok (.aload_n 0, 1) := by decide +kernel
theorem dX8_readsWalker_100 : decode cX8_readsWalker 100 = .ok (.getfield 148, 3) := by decide +kernel
theorem dX8_readsWalker_103 : decode cX8_readsWalker 103 = .ok (.iconst 1, 1) := by decide +kernel
theorem dX8_readsWalker_104 : decode cX8_readsWalker 104 = .ok (.isub, 1) := by decide +kernel
theorem dX8_readsWalker_105 : decode cX8_readsWalker 105 = .ok (.invokevirtual 151, 3) := by decide +kernel
theorem dX8_readsWalker_108 : decode cX8_readsWalker 108 = .ok (.ifCond .ne 5, 3) := by decide +kernel
theorem dX8_readsWalker_111 : decode cX8_readsWalker 111 = .ok (.iconst 0, 1) := by decide +kernel
theorem dX8_readsWalker_112 : decode cX8_readsWalker 112 = .ok (.ireturn, 1) := by decide +kernel
theorem dX8_readsWalker_113 : decode cX8_readsWalker 113 = .ok (.iload_n 3, 1) := by decide +kernel
theorem dX8_readsWalker_114 : decode cX8_readsWalker 114 = .ok (.iconst 1, 1) := by decide +kernel
theorem dX8_readsWalker_115 : decode cX8_readsWalker 115 = .ok (.aload_n 0, 1) := by decide +kernel
theorem dX8_readsWalker_116 : decode cX8_readsWalker 116 = .ok (.getfield 142, 3) := by decide +kernel
theorem dX8_readsWalker_119 : decode cX8_readsWalker 119 = .ok (.ishl, 1) := by decide +kernel
theorem dX8_readsWalker_120 : decode cX8_readsWalker 120 = .ok (.ior, 1) := by decide +kernel
theorem dX8_readsWalker_121 : decode cX8_readsWalker 121 = .ok (.istore_n 3, 1) := by decide +kernel
theorem dX8_readsWalker_122 : decode cX8_readsWalker 122 = .ok (.aload_n 0, 1) := by decide +kernel
theorem dX8_readsWalker_123 : decode cX8_readsWalker 123 = .ok (.getfield 142, 3) := by decide +kernel
theorem dX8_readsWalker_126 : decode cX8_readsWalker 126 = .ok (.iconst 1, 1) := by decide +kernel
theorem dX8_readsWalker_127 : decode cX8_readsWalker 127 = .ok (.iadd, 1) := by decide +kernel
theorem dX8_readsWalker_128 : decode cX8_readsWalker 128 = .ok (.istore 4, 2) := by decide +kernel
theorem dX8_readsWalker_130 : decode cX8_readsWalker 130 = .ok (.goto (-54), 3) := by decide +kernel
theorem dX8_readsWalker_133 : decode cX8_readsWalker 133 = .ok (.aload_n 0, 1) := by decide +kernel
theorem dX8_readsWalker_134 : decode cX8_readsWalker 134 = .ok (.getfield 38, 3) := by decide +kernel
theorem dX8_readsWalker_137 : decode cX8_readsWalker 137 = .ok (.iconst 2, 1) := by decide +kernel
theorem dX8_readsWalker_138 : decode cX8_readsWalker 138 = .ok (.aload_n 0, 1) := by decide +kernel
theorem dX8_readsWalker_139 : decode cX8_readsWalker 139 = .ok (.getfield 158, 3) := by decide +kernel
theorem dX8_readsWalker_142 : decode cX8_readsWalker 142 = .ok (.imul, 1) := by decide +kernel
theorem dX8_readsWalker_143 : decode cX8_readsWalker 143 = .ok (.iload_n 2, 1) := by decide +kernel
theorem dX8_readsWalker_144 : decode cX8_readsWalker 144 = .ok (.iastore, 1) := by decide +kernel
theorem dX8_readsWalker_145 : decode cX8_readsWalker 145 = .ok (.aload_n 0, 1) := by decide +kernel
theorem dX8_readsWalker_146 : decode cX8_readsWalker 146 = .ok (.getfield 38, 3) := by decide +kernel
theorem dX8_readsWalker_149 : decode cX8_readsWalker 149 = .ok (.iconst 2, 1) := by decide +kernel
theorem dX8_readsWalker_150 : decode cX8_readsWalker 150 = .ok (.aload_n 0, 1) := by decide +kernel
theorem dX8_readsWalker_151 : decode cX8_readsWalker 151 = .ok (.getfield 158, 3) := by decide +kernel
theorem dX8_readsWalker_154 : decode cX8_readsWalker 154 = .ok (.imul, 1) := by decide +kernel
theorem dX8_readsWalker_155 : decode cX8_readsWalker 155 = .ok (.iconst 1, 1) := by decide +kernel
theorem dX8_readsWalker_156 : decode cX8_readsWalker 156 = .ok (.iadd, 1) := by decide +kernel
theorem dX8_readsWalker_157 : decode cX8_readsWalker 157 = .ok (.iload_n 3, 1) := by decide +kernel
theorem dX8_readsWalker_158 : decode cX8_readsWalker 158 = .ok (.iastore, 1) := by decide +kernel
theorem dX8_readsWalker_159 : decode cX8_readsWalker 159 = .ok (.aload_n 0, 1) := by decide +kernel
theorem dX8_readsWalker_160 : decode cX8_readsWalker 160 = .ok (.dup, 1) := by decide +kernel
theorem dX8_readsWalker_161 : decode cX8_readsWalker 161 = .ok (.getfield 158, 3) := by decide +kernel
theorem dX8_readsWalker_164 : decode cX8_readsWalker 164 = .ok (.iload_n 3, 1) := by decide +kernel
theorem dX8_readsWalker_165 : decode cX8_readsWalker 165 = .ok (.ifCond .le 7, 3) := by decide +kernel
theorem dX8_readsWalker_168 : decode cX8_readsWalker 168 = .ok (.iconst 1, 1) := by decide +kernel
theorem dX8_readsWalker_169 : decode cX8_readsWalker 169 = .ok (.goto 4, 3) := by decide +kernel
theorem dX8_readsWalker_172 : decode cX8_readsWalker 172 = .ok (.iconst 0, 1) := by decide +kernel
theorem dX8_readsWalker_173 : decode cX8_readsWalker 173 = .ok (.iadd, 1) := by decide +kernel
theorem dX8_readsWalker_174 : decode cX8_readsWalker 174 = .ok (.putfield 158, 3) := by decide +kernel
theorem dX8_readsWalker_177 : decode cX8_readsWalker 177 = .ok (.iload_n 3, 1) := by decide +kernel
theorem dX8_readsWalker_178 : decode cX8_readsWalker 178 = .ok (.ifCond .le 7, 3) := by decide +kernel
theorem dX8_readsWalker_181 : decode cX8_readsWalker 181 = .ok (.iconst 1, 1) := by decide +kernel
theorem dX8_readsWalker_182 : decode cX8_readsWalker 182 = .ok (.goto 4, 3) := by decide +kernel
theorem dX8_readsWalker_185 : decode cX8_readsWalker 185 = .ok (.iconst 0, 1) := by decide +kernel
theorem dX8_readsWalker_186 : decode cX8_readsWalker 186 = .ok (.ireturn, 1) := by decide +kernel
theorem dX8_readsMinute_0 : decode cX8_readsMinute 0 = .ok (.aload_n 0, 1) := by decide +kernel
theorem dX8_readsMinute_1 : decode cX8_readsMinute 1 = .ok (.dup, 1) := by decide +kernel
theorem dX8_readsMinute_2 : decode cX8_readsMinute 2 = .ok (.getfield 136, 3) := by decide +kernel
theorem dX8_readsMinute_5 : decode cX8_readsMinute 5 = .ok (.iconst 1, 1) := by decide +kernel
theorem dX8_readsMinute_6 : decode cX8_readsMinute 6 = .ok (.iadd, 1) := by decide +kernel
theorem dX8_readsMinute_7 : decode cX8_readsMinute 7 = .ok (.putfield 136, 3) := by decide +kernel
theorem dX8_readsMinute_10 : decode cX8_readsMinute 10 = .ok (.aload_n 0, 1) := by decide +kernel
theorem dX8_readsMinute_11 : decode cX8_readsMinute 11 = .ok (.iload_n 1, 1) := by decide +kernel
theorem dX8_readsMinute_12 : decode cX8_readsMinute 12 = .ok (.iconst 1, 1) := by decide +kernel
theorem dX8_readsMinute_13 : decode cX8_readsMinute 13 = .ok (.bipush 30, 2) := by decide +kernel
theorem dX8_readsMinute_15 : decode cX8_readsMinute 15 = .ok (.invokevirtual 161, 3) := by decide +kernel
theorem dX8_readsMinute_18 : decode cX8_readsMinute 18 = .ok (.istore_n 2, 1) := by decide +kernel
theorem dX8_readsMinute_19 : decode cX8_readsMinute 19 = .ok (.aload_n 0, 1) := by decide +kernel
theorem dX8_readsMinute_20 : decode cX8_readsMinute 20 = .ok (.aload_n 0, 1) := by decide +kernel
theorem dX8_readsMinute_21 : decode cX8_readsMinute 21 = .ok (.getfield 142, 3) := by decide +kernel
theorem dX8_readsMinute_24 : decode cX8_readsMinute 24 = .ok (.putfield 164, 3) := by decide +kernel
theorem dX8_readsMinute_27 : decode cX8_readsMinute 27 = .ok (.iload_n 2, 1) := by decide +kernel
theorem dX8_readsMinute_28 : decode cX8_readsMinute 28 = .ok (.ireturn, 1) := by decide +kernel
theorem dX8_readsItem_0 : decode cX8_readsItem 0 = .ok (.aload_n 0, 1) := by decide +kernel
theorem dX8_readsItem_1 : decode cX8_readsItem 1 = .ok (.iload_n 1, 1) := by decide +kernel
theorem dX8_readsItem_2 : decode cX8_readsItem 2 = .ok (.aload_n 0, 1) := by decide +kernel
theorem dX8_readsItem_3 : decode cX8_readsItem 3 = .ok (.getfield 136, 3) := by decide +kernel
theorem dX8_readsItem_6 : decode cX8_readsItem 6 = .ok (.invokevirtual 139, 3) := by decide +kernel
theorem dX8_readsItem_9 : decode cX8_readsItem 9 = .ok (.istore_n 2, 1) := by decide +kernel
theorem dX8_readsItem_10 : decode cX8_readsItem 10 = .ok (.iload_n 2, 1) := by decide +kernel
theorem dX8_readsItem_11 : decode cX8_readsItem 11 = .ok (.bipush 100, 2) := by decide +kernel
theorem dX8_readsItem_13 : decode cX8_readsItem 13 = .ok (.if_icmp .eq 9, 3) := by decide +kernel
theorem dX8_readsItem_16 : decode cX8_readsItem 16 = .ok (.iload_n 2, 1) := by decide +kernel
theorem dX8_readsItem_17 : decode cX8_readsItem 17 = .ok (.bipush 68, 2) := by decide +kernel
theorem dX8_readsItem_19 : decode cX8_readsItem 19 = .ok (.if_icmp .ne 22, 3) := by decide +kernel
theorem dX8_readsItem_22 : decode cX8_readsItem 22 = .ok (.aload_n 0, 1) := by decide +kernel
theorem dX8_readsItem_23 : decode cX8_readsItem 23 = .ok (.iload_n 1, 1) := by decide +kernel
theorem dX8_readsItem_24 : decode cX8_readsItem 24 = .ok (.iload_n 2, 1) := by decide +kernel
theorem dX8_readsItem_25 : decode cX8_readsItem 25 = .ok (.bipush 68, 2) := by decide +kernel
theorem dX8_readsItem_27 : decode cX8_readsItem 27 = .ok (.if_icmp .ne 7, 3) := by decide +kernel
theorem dX8_readsItem_30 : decode cX8_readsItem 30 = .ok (.iconst 1, 1) := by decide +kernel
theorem dX8_readsItem_31 : decode cX8_readsItem 31 = .ok (.goto 4, 3) := by decide +kernel
theorem dX8_readsItem_34 : decode cX8_readsItem 34 = .ok (.iconst 0, 1) := by decide +kernel
theorem dX8_readsItem_35 : decode cX8_readsItem 35 = .ok (.invokevirtual 167, 3) := by decide +kernel
theorem dX8_readsItem_38 : decode cX8_readsItem 38 = .ok (.goto 36, 3) := by decide +kernel
theorem dX8_readsItem_41 : decode cX8_readsItem 41 = .ok (.iload_n 2, 1) := by decide +kernel
theorem dX8_readsItem_42 : decode cX8_readsItem 42 = .ok (.bipush 109, 2) := by decide +kernel
theorem dX8_readsItem_44 : decode cX8_readsItem 44 = .ok (.if_icmp .ne 11, 3) := by decide +kernel
theorem dX8_readsItem_47 : decode cX8_readsItem 47 = .ok (.aload_n 0, 1) := by decide +kernel
theorem dX8_readsItem_48 : decode cX8_readsItem 48 = .ok (.iload_n 1, 1) := by decide +kernel
theorem dX8_readsItem_49 : decode cX8_readsItem 49 = .ok (.invokevirtual 170, 3) := by decide +kernel
theorem dX8_readsItem_52 : decode cX8_readsItem 52 = .ok (.goto 22, 3) := by decide +kernel
theorem dX8_readsItem_55 : decode cX8_readsItem 55 = .ok (.iload_n 2, 1) := by decide +kernel
theorem dX8_readsItem_56 : decode cX8_readsItem 56 = .ok (.bipush 119, 2) := by decide +kernel
theorem dX8_readsItem_58 : decode cX8_readsItem 58 = .ok (.if_icmp .ne 15, 3) := by decide +kernel
theorem dX8_readsItem_61 : decode cX8_readsItem 61 = .ok (.aload_n 0, 1) := by decide +kernel
theorem dX8_readsItem_62 : decode cX8_readsItem 62 = .ok (.iload_n 1, 1) := by decide +kernel
theorem dX8_readsItem_63 : decode cX8_readsItem 63 = .ok (.invokevirtual 173, 3) := by decide +kernel
theorem dX8_readsItem_66 : decode cX8_readsItem 66 = .ok (.ifCond .eq 7, 3) := by decide +kernel
theorem dX8_readsItem_69 : decode cX8_readsItem 69 = .ok (.iconst 1, 1) := by decide +kernel
theorem dX8_readsItem_70 : decode cX8_readsItem 70 = .ok (.goto 4, 3) := by decide +kernel
theorem dX8_readsItem_73 : decode cX8_readsItem 73 = .ok (.iconst 0, 1) := by decide +kernel
theorem dX8_readsItem_74 : decode cX8_readsItem 74 = .ok (.ireturn, 1) := by decide +kernel
theorem dX8_pass_0 : decode cX8_pass 0 = .ok (.aload_n 0, 1) := by decide +kernel
theorem dX8_pass_1 : decode cX8_pass 1 = .ok (.iload_n 1, 1) := by decide +kernel
theorem dX8_pass_2 : decode cX8_pass 2 = .ok (.aload_n 0, 1) := by decide +kernel
theorem dX8_pass_3 : decode cX8_pass 3 = .ok (.getfield 136, 3) := by decide +kernel
theorem dX8_pass_6 : decode cX8_pass 6 = .ok (.invokevirtual 139, 3) := by decide +kernel
theorem dX8_pass_9 : decode cX8_pass 9 = .ok (.bipush 32, 2) := by decide +kernel
theorem dX8_pass_11 : decode cX8_pass 11 = .ok (.if_icmp .ne 16, 3) := by decide +kernel
theorem dX8_pass_14 : decode cX8_pass 14 = .ok (.aload_n 0, 1) := by decide +kernel
theorem dX8_pass_15 : decode cX8_pass 15 = .ok (.dup, 1) := by decide +kernel
theorem dX8_pass_16 : decode cX8_pass 16 = .ok (.getfield 136, 3) := by decide +kernel
theorem dX8_pass_19 : decode cX8_pass 19 = .ok (.iconst 1, 1) := by decide +kernel
theorem dX8_pass_20 : decode cX8_pass 20 = .ok (.iadd, 1) := by decide +kernel
theorem dX8_pass_21 : decode cX8_pass 21 = .ok (.putfield 136, 3) := by decide +kernel
theorem dX8_pass_24 : decode cX8_pass 24 = .ok (.goto (-24), 3) := by decide +kernel
theorem dX8_pass_27 : decode cX8_pass 27 = .ok (.return_, 1) := by decide +kernel
theorem dX8_houseFault_0 : decode cX8_houseFault 0 = .ok (.aload_n 0, 1) := by decide +kernel
theorem dX8_houseFault_1 : decode cX8_houseFault 1 = .ok (.iconst 0, 1) := by decide +kernel
theorem dX8_houseFault_2 : decode cX8_houseFault 2 = .ok (.putfield 136, 3) := by decide +kernel
theorem dX8_houseFault_5 : decode cX8_houseFault 5 = .ok (.aload_n 0, 1) := by decide +kernel
theorem dX8_houseFault_6 : decode cX8_houseFault 6 = .ok (.iconst 0, 1) := by decide +kernel
theorem dX8_houseFault_7 : decode cX8_houseFault 7 = .ok (.putfield 145, 3) := by decide +kernel
theorem dX8_houseFault_10 : decode cX8_houseFault 10 = .ok (.aload_n 0, 1) := by decide +kernel
theorem dX8_houseFault_11 : decode cX8_houseFault 11 = .ok (.iconst 0, 1) := by decide +kernel
theorem dX8_houseFault_12 : decode cX8_houseFault 12 = .ok (.putfield 158, 3) := by decide +kernel
theorem dX8_houseFault_15 : decode cX8_houseFault 15 = .ok (.aload_n 0, 1) := by decide +kernel
theorem dX8_houseFault_16 : decode cX8_houseFault 16 = .ok (.bipush 12, 2) := by decide +kernel
theorem dX8_houseFault_18 : decode cX8_houseFault 18 = .ok (.putfield 164, 3) := by decide +kernel
theorem dX8_houseFault_21 : decode cX8_houseFault 21 = .ok (.aload_n 0, 1) := by decide +kernel
theorem dX8_houseFault_22 : decode cX8_houseFault 22 = .ok (.iload_n 1, 1) := by decide +kernel
theorem dX8_houseFault_23 : decode cX8_houseFault 23 = .ok (.invokevirtual 176, 3) := by decide +kernel
theorem dX8_houseFault_26 : decode cX8_houseFault 26 = .ok (.aload_n 0, 1) := by decide +kernel
theorem dX8_houseFault_27 : decode cX8_houseFault 27 = .ok (.iload_n 1, 1) := by decide +kernel
theorem dX8_houseFault_28 : decode cX8_houseFault 28 = .ok (.bipush 114, 2) := by decide +kernel
theorem dX8_houseFault_30 : decode cX8_houseFault 30 = .ok (.invokevirtual 154, 3) := by decide +kernel
theorem dX8_houseFault_33 : decode cX8_houseFault 33 = .ok (.ifCond .eq 14, 3) := by decide +kernel
theorem dX8_houseFault_36 : decode cX8_houseFault 36 = .ok (.aload_n 0, 1) := by decide +kernel
theorem dX8_houseFault_37 : decode cX8_houseFault 37 = .ok (.iload_n 1, 1) := by decide +kernel
theorem dX8_houseFault_38 : decode cX8_houseFault 38 = .ok (.iconst 1, 1) := by decide +kernel
theorem dX8_houseFault_39 : decode cX8_houseFault 39 = .ok (.bipush 6, 2) := by decide +kernel
theorem dX8_houseFault_41 : decode cX8_houseFault 41 = .ok (.invokevirtual 151, 3) := by decide +kernel
theorem dX8_houseFault_44 : decode cX8_houseFault 44 = .ok (.ifCond .ne 8, 3) := by decide +kernel
theorem dX8_houseFault_47 : decode cX8_houseFault 47 = .ok (.aload_n 0, 1) := by decide +kernel
theorem dX8_houseFault_48 : decode cX8_houseFault 48 = .ok (.getfield 136, 3) := by decide +kernel
theorem dX8_houseFault_51 : decode cX8_houseFault 51 = .ok (.ireturn, 1) := by decide +kernel
theorem dX8_houseFault_52 : decode cX8_houseFault 52 = .ok (.aload_n 0, 1) := by decide +kernel
theorem dX8_houseFault_53 : decode cX8_houseFault 53 = .ok (.aload_n 0, 1) := by decide +kernel
theorem dX8_houseFault_54 : decode cX8_houseFault 54 = .ok (.getfield 142, 3) := by decide +kernel
theorem dX8_houseFault_57 : decode cX8_houseFault 57 = .ok (.putfield 148, 3) := by decide +kernel
theorem dX8_houseFault_60 : decode cX8_houseFault 60 = .ok (.aload_n 0, 1) := by decide +kernel
theorem dX8_houseFault_61 : decode cX8_houseFault 61 = .ok (.iload_n 1, 1) := by decide +kernel
theorem dX8_houseFault_62 : decode cX8_houseFault 62 = .ok (.invokevirtual 176, 3) := by decide +kernel
theorem dX8_houseFault_65 : decode cX8_houseFault 65 = .ok (.aload_n 0, 1) := by decide +kernel
theorem dX8_houseFault_66 : decode cX8_houseFault 66 = .ok (.getfield 136, 3) := by decide +kernel
theorem dX8_houseFault_69 : decode cX8_houseFault 69 = .ok (.aload_n 0, 1) := by decide +kernel
theorem dX8_houseFault_70 : decode cX8_houseFault 70 = .ok (.getfield 22, 3) := by decide +kernel
theorem dX8_houseFault_73 : decode cX8_houseFault 73 = .ok (.iload_n 1, 1) := by decide +kernel
theorem dX8_houseFault_74 : decode cX8_houseFault 74 = .ok (.iaload, 1) := by decide +kernel
theorem dX8_houseFault_75 : decode cX8_houseFault 75 = .ok (.if_icmp .ge 24, 3) := by decide +kernel
theorem dX8_houseFault_78 : decode cX8_houseFault 78 = .ok (.aload_n 0, 1) := by decide +kernel
theorem dX8_houseFault_79 : decode cX8_houseFault 79 = .ok (.iload_n 1, 1) := by decide +kernel
theorem dX8_houseFault_80 : decode cX8_houseFault 80 = .ok (.invokevirtual 180, 3) := by decide +kernel
theorem dX8_houseFault_83 : decode cX8_houseFault 83 = .ok (.ifCond .ne 8, 3) := by decide +kernel
theorem dX8_houseFault_86 : decode cX8_houseFault 86 = .ok (.aload_n 0, 1) := by decide +kernel
theorem dX8_houseFault_87 : decode cX8_houseFault 87 = .ok (.getfield 136, 3) := by decide +kernel
theorem dX8_houseFault_90 : decode cX8_houseFault 90 = .ok (.ireturn, 1) := by decide +kernel
theorem dX8_houseFault_91 : decode cX8_houseFault 91 = .ok (.aload_n 0, 1) := by decide +kernel
theorem dX8_houseFault_92 : decode cX8_houseFault 92 = .ok (.iload_n 1, 1) := by decide +kernel
theorem dX8_houseFault_93 : decode cX8_houseFault 93 = .ok (.invokevirtual 176, 3) := by decide +kernel
theorem dX8_houseFault_96 : decode cX8_houseFault 96 = .ok (.goto (-31), 3) := by decide +kernel
theorem dX8_houseFault_99 : decode cX8_houseFault 99 = .ok (.bipush (-9), 2) := by decide +kernel
theorem dX8_houseFault_101 : decode cX8_houseFault 101 = .ok (.ireturn, 1) := by decide +kernel
theorem dX8_isRoom_0 : decode cX8_isRoom 0 = .ok (.iload_n 1, 1) := by decide +kernel
theorem dX8_isRoom_1 : decode cX8_isRoom 1 = .ok (.iconst 0, 1) := by decide +kernel
theorem dX8_isRoom_2 : decode cX8_isRoom 2 = .ok (.aload_n 0, 1) := by decide +kernel
theorem dX8_isRoom_3 : decode cX8_isRoom 3 = .ok (.getfield 95, 3) := by decide +kernel
theorem dX8_isRoom_6 : decode cX8_isRoom 6 = .ok (.iconst 1, 1) := by decide +kernel
theorem dX8_isRoom_7 : decode cX8_isRoom 7 = .ok (.isub, 1) := by decide +kernel
theorem dX8_isRoom_8 : decode cX8_isRoom 8 = .ok (.invokestatic 105, 3) := by decide +kernel
theorem dX8_isRoom_11 : decode cX8_isRoom 11 = .ok (.ireturn, 1) := by decide +kernel
theorem dX8_isDoor_0 : decode cX8_isDoor 0 = .ok (.iload_n 1, 1) := by decide +kernel
theorem dX8_isDoor_1 : decode cX8_isDoor 1 = .ok (.iconst 0, 1) := by decide +kernel
theorem dX8_isDoor_2 : decode cX8_isDoor 2 = .ok (.aload_n 0, 1) := by decide +kernel
theorem dX8_isDoor_3 : decode cX8_isDoor 3 = .ok (.getfield 183, 3) := by decide +kernel
theorem dX8_isDoor_6 : decode cX8_isDoor 6 = .ok (.iconst 1, 1) := by decide +kernel
theorem dX8_isDoor_7 : decode cX8_isDoor 7 = .ok (.isub, 1) := by decide +kernel
theorem dX8_isDoor_8 : decode cX8_isDoor 8 = .ok (.invokestatic 105, 3) := by decide +kernel
theorem dX8_isDoor_11 : decode cX8_isDoor 11 = .ok (.ireturn, 1) := by decide +kernel
theorem dX8_isWalker_0 : decode cX8_isWalker 0 = .ok (.iload_n 1, 1) := by decide +kernel
theorem dX8_isWalker_1 : decode cX8_isWalker 1 = .ok (.iconst 0, 1) := by decide +kernel
theorem dX8_isWalker_2 : decode cX8_isWalker 2 = .ok (.aload_n 0, 1) := by decide +kernel
theorem dX8_isWalker_3 : decode cX8_isWalker 3 = .ok (.getfield 186, 3) := by decide +kernel
theorem dX8_isWalker_6 : decode cX8_isWalker 6 = .ok (.iconst 1, 1) := by decide +kernel
theorem dX8_isWalker_7 : decode cX8_isWalker 7 = .ok (.isub, 1) := by decide +kernel
theorem dX8_isWalker_8 : decode cX8_isWalker 8 = .ok (.invokestatic 105, 3) := by decide +kernel
theorem dX8_isWalker_11 : decode cX8_isWalker 11 = .ok (.ireturn, 1) := by decide +kernel
theorem dX8_hasBoard_0 : decode cX8_hasBoard 0 = .ok (.aload_n 0, 1) := by decide +kernel
theorem dX8_hasBoard_1 : decode cX8_hasBoard 1 = .ok (.getfield 29, 3) := by decide +kernel
theorem dX8_hasBoard_4 : decode cX8_hasBoard 4 = .ok (.iconst 3, 1) := by decide +kernel
theorem dX8_hasBoard_5 : decode cX8_hasBoard 5 = .ok (.iload_n 1, 1) := by decide +kernel
theorem dX8_hasBoard_6 : decode cX8_hasBoard 6 = .ok (.imul, 1) := by decide +kernel
theorem dX8_hasBoard_7 : decode cX8_hasBoard 7 = .ok (.iconst 2, 1) := by decide +kernel
theorem dX8_hasBoard_8 : decode cX8_hasBoard 8 = .ok (.iadd, 1) := by decide +kernel
theorem dX8_hasBoard_9 : decode cX8_hasBoard 9 = .ok (.iaload, 1) := by decide +kernel
theorem dX8_hasBoard_10 : decode cX8_hasBoard 10 = .ok (.iconst 1, 1) := by decide +kernel
theorem dX8_hasBoard_11 : decode cX8_hasBoard 11 = .ok (.if_icmp .ne 7, 3) := by decide +kernel
theorem dX8_hasBoard_14 : decode cX8_hasBoard 14 = .ok (.iconst 1, 1) := by decide +kernel
theorem dX8_hasBoard_15 : decode cX8_hasBoard 15 = .ok (.goto 4, 3) := by decide +kernel
theorem dX8_hasBoard_18 : decode cX8_hasBoard 18 = .ok (.iconst 0, 1) := by decide +kernel
theorem dX8_hasBoard_19 : decode cX8_hasBoard 19 = .ok (.ireturn, 1) := by decide +kernel
theorem dX8_noteNight_0 : decode cX8_noteNight 0 = .ok (.aload_n 0, 1) := by decide +kernel
theorem dX8_noteNight_1 : decode cX8_noteNight 1 = .ok (.getfield 44, 3) := by decide +kernel
theorem dX8_noteNight_4 : decode cX8_noteNight 4 = .ok (.iconst 4, 1) := by decide +kernel
theorem dX8_noteNight_5 : decode cX8_noteNight 5 = .ok (.aload_n 0, 1) := by decide +kernel
theorem dX8_noteNight_6 : decode cX8_noteNight 6 = .ok (.getfield 189, 3) := by decide +kernel
theorem dX8_noteNight_9 : decode cX8_noteNight 9 = .ok (.imul, 1) := by decide +kernel
theorem dX8_noteNight_10 : decode cX8_noteNight 10 = .ok (.iload_n 1, 1) := by decide +kernel
theorem dX8_noteNight_11 : decode cX8_noteNight 11 = .ok (.iastore, 1) := by decide +kernel
theorem dX8_noteNight_12 : decode cX8_noteNight 12 = .ok (.aload_n 0, 1) := by decide +kernel
theorem dX8_noteNight_13 : decode cX8_noteNight 13 = .ok (.getfield 44, 3) := by decide +kernel
theorem dX8_noteNight_16 : decode cX8_noteNight 16 = .ok (.iconst 4, 1) := by decide +kernel
theorem dX8_noteNight_17 : decode cX8_noteNight 17 = .ok (.aload_n 0, 1) := by decide +kernel
theorem dX8_noteNight_18 : decode cX8_noteNight 18 = .ok (.getfield 189, 3) := by decide +kernel
theorem dX8_noteNight_21 : decode cX8_noteNight 21 = .ok (.imul, 1) := by decide +kernel
theorem dX8_noteNight_22 : decode cX8_noteNight 22 = .ok (.iconst 1, 1) := by decide +kernel
theorem dX8_noteNight_23 : decode cX8_noteNight 23 = .ok (.iadd, 1) := by decide +kernel
theorem dX8_noteNight_24 : decode cX8_noteNight 24 = .ok (.iload_n 2, 1) := by decide +kernel
theorem dX8_noteNight_25 : decode cX8_noteNight 25 = .ok (.iastore, 1) := by decide +kernel
theorem dX8_noteNight_26 : decode cX8_noteNight 26 = .ok (.aload_n 0, 1) := by decide +kernel
theorem dX8_noteNight_27 : decode cX8_noteNight 27 = .ok (.getfield 44, 3) := by decide +kernel
theorem dX8_noteNight_30 : decode cX8_noteNight 30 = .ok (.iconst 4, 1) := by decide +kernel
theorem dX8_noteNight_31 : decode cX8_noteNight 31 = .ok (.aload_n 0, 1) := by decide +kernel
theorem dX8_noteNight_32 : decode cX8_noteNight 32 = .ok (.getfield 189, 3) := by decide +kernel
theorem dX8_noteNight_35 : decode cX8_noteNight 35 = .ok (.imul, 1) := by decide +kernel
theorem dX8_noteNight_36 : decode cX8_noteNight 36 = .ok (.iconst 2, 1) := by decide +kernel
theorem dX8_noteNight_37 : decode cX8_noteNight 37 = .ok (.iadd, 1) := by decide +kernel
theorem dX8_noteNight_38 : decode cX8_noteNight 38 = .ok (.iload_n 3, 1) := by decide +kernel
theorem dX8_noteNight_39 : decode cX8_noteNight 39 = .ok (.iastore, 1) := by decide +kernel
theorem dX8_noteNight_40 : decode cX8_noteNight 40 = .ok (.aload_n 0, 1) := by decide +kernel
theorem dX8_noteNight_41 : decode cX8_noteNight 41 = .ok (.getfield 44, 3) := by decide +kernel
theorem dX8_noteNight_44 : decode cX8_noteNight 44 = .ok (.iconst 4, 1) := by decide +kernel
theorem dX8_noteNight_45 : decode cX8_noteNight 45 = .ok (.aload_n 0, 1) := by decide +kernel
theorem dX8_noteNight_46 : decode cX8_noteNight 46 = .ok (.getfield 189, 3) := by decide +kernel
theorem dX8_noteNight_49 : decode cX8_noteNight 49 = .ok (.imul, 1) := by decide +kernel
theorem dX8_noteNight_50 : decode cX8_noteNight 50 = .ok (.iconst 3, 1) := by decide +kernel
theorem dX8_noteNight_51 : decode cX8_noteNight 51 = .ok (.iadd, 1) := by decide +kernel
theorem dX8_noteNight_52 : decode cX8_noteNight 52 = .ok (.iload 4, 2) := by decide +kernel
theorem dX8_noteNight_54 : decode cX8_noteNight 54 = .ok (.iastore, 1) := by decide +kernel
theorem dX8_noteNight_55 : decode cX8_noteNight 55 = .ok (.aload_n 0, 1) := by decide +kernel
theorem dX8_noteNight_56 : decode cX8_noteNight 56 = .ok (.dup, 1) := by decide +kernel
theorem dX8_noteNight_57 : decode cX8_noteNight 57 = .ok (.getfield 189, 3) := by decide +kernel
theorem dX8_noteNight_60 : decode cX8_noteNight 60 = .ok (.iconst 1, 1) := by decide +kernel
theorem dX8_noteNight_61 : decode cX8_noteNight 61 = .ok (.iadd, 1) := by decide +kernel
theorem dX8_noteNight_62 : decode cX8_noteNight 62 = .ok (.putfield 189, 3) := by decide +kernel
theorem dX8_noteNight_65 : decode cX8_noteNight 65 = .ok (.return_, 1) := by decide +kernel
theorem dX8_about_0 : decode cX8_about 0 = .ok (.aload_n 0, 1) := by decide +kernel
theorem dX8_about_1 : decode cX8_about 1 = .ok (.iload_n 1, 1) := by decide +kernel
theorem dX8_about_2 : decode cX8_about 2 = .ok (.aload_n 0, 1) := by decide +kernel
theorem dX8_about_3 : decode cX8_about 3 = .ok (.getfield 136, 3) := by decide +kernel
theorem dX8_about_6 : decode cX8_about 6 = .ok (.invokevirtual 139, 3) := by decide +kernel
theorem dX8_about_9 : decode cX8_about 9 = .ok (.bipush 48, 2) := by decide +kernel
theorem dX8_about_11 : decode cX8_about 11 = .ok (.isub, 1) := by decide +kernel
theorem dX8_about_12 : decode cX8_about 12 = .ok (.istore_n 3, 1) := by decide +kernel
theorem dX8_about_13 : decode cX8_about 13 = .ok (.iload_n 2, 1) := by decide +kernel
theorem dX8_about_14 : decode cX8_about 14 = .ok (.iconst 1, 1) := by decide +kernel
theorem dX8_about_15 : decode cX8_about 15 = .ok (.if_icmp .ne 27, 3) := by decide +kernel
theorem dX8_about_18 : decode cX8_about 18 = .ok (.aload_n 0, 1) := by decide +kernel
theorem dX8_about_19 : decode cX8_about 19 = .ok (.iload_n 3, 1) := by decide +kernel
theorem dX8_about_20 : decode cX8_about 20 = .ok (.invokevirtual 192, 3) := by decide +kernel
theorem dX8_about_23 : decode cX8_about 23 = .ok (.ifCond .eq 15, 3) := by decide +kernel
theorem dX8_about_26 : decode cX8_about 26 = .ok (.aload_n 0, 1) := by decide +kernel
theorem dX8_about_27 : decode cX8_about 27 = .ok (.iload_n 3, 1) := by decide +kernel
theorem dX8_about_28 : decode cX8_about 28 = .ok (.invokevirtual 195, 3) := by decide +kernel
theorem dX8_about_31 : decode cX8_about 31 = .ok (.ifCond .eq 7, 3) := by decide +kernel
theorem dX8_about_34 : decode cX8_about 34 = .ok (.iconst 1, 1) := by decide +kernel
theorem dX8_about_35 : decode cX8_about 35 = .ok (.goto 25, 3) := by decide +kernel
theorem dX8_about_38 : decode cX8_about 38 = .ok (.iconst 0, 1) := by decide +kernel
theorem dX8_about_39 : decode cX8_about 39 = .ok (.goto 21, 3) := by decide +kernel
theorem dX8_about_42 : decode cX8_about 42 = .ok (.iload_n 2, 1) := by decide +kernel
theorem dX8_about_43 : decode cX8_about 43 = .ok (.iconst 5, 1) := by decide +kernel
theorem dX8_about_44 : decode cX8_about 44 = .ok (.if_icmp .ne 11, 3) := by decide +kernel
theorem dX8_about_47 : decode cX8_about 47 = .ok (.aload_n 0, 1) := by decide +kernel
theorem dX8_about_48 : decode cX8_about 48 = .ok (.iload_n 3, 1) := by decide +kernel
theorem dX8_about_49 : decode cX8_about 49 = .ok (.invokevirtual 192, 3) := by decide +kernel
theorem dX8_about_52 : decode cX8_about 52 = .ok (.goto 8, 3) := by decide +kernel
theorem dX8_about_55 : decode cX8_about 55 = .ok (.aload_n 0, 1) := by decide +kernel
theorem dX8_about_56 : decode cX8_about 56 = .ok (.iload_n 3, 1) := by decide +kernel
theorem dX8_about_57 : decode cX8_about 57 = .ok (.invokevirtual 198, 3) := by decide +kernel
theorem dX8_about_60 : decode cX8_about 60 = .ok (.istore 4, 2) := by decide +kernel
theorem dX8_about_62 : decode cX8_about 62 = .ok (.aload_n 0, 1) := by decide +kernel
theorem dX8_about_63 : decode cX8_about 63 = .ok (.iload_n 3, 1) := by decide +kernel
theorem dX8_about_64 : decode cX8_about 64 = .ok (.putfield 142, 3) := by decide +kernel
theorem dX8_about_67 : decode cX8_about 67 = .ok (.aload_n 0, 1) := by decide +kernel
theorem dX8_about_68 : decode cX8_about 68 = .ok (.dup, 1) := by decide +kernel
theorem dX8_about_69 : decode cX8_about 69 = .ok (.getfield 136, 3) := by decide +kernel
theorem dX8_about_72 : decode cX8_about 72 = .ok (.iload 4, 2) := by decide +kernel
theorem dX8_about_74 : decode cX8_about 74 = .ok (.ifCond .eq 7, 3) := by decide +kernel
theorem dX8_about_77 : decode cX8_about 77 = .ok (.iconst 1, 1) := by decide +kernel
theorem dX8_about_78 : decode cX8_about 78 = .ok (.goto 4, 3) := by decide +kernel
theorem dX8_about_81 : decode cX8_about 81 = .ok (.iconst 0, 1) := by decide +kernel
theorem dX8_about_82 : decode cX8_about 82 = .ok (.iadd, 1) := by decide +kernel
theorem dX8_about_83 : decode cX8_about 83 = .ok (.putfield 136, 3) := by decide +kernel
theorem dX8_about_86 : decode cX8_about 86 = .ok (.iload 4, 2) := by decide +kernel
theorem dX8_about_88 : decode cX8_about 88 = .ok (.ireturn, 1) := by decide +kernel
theorem dX8_readsEvent_0 : decode cX8_readsEvent 0 = .ok (.aload_n 0, 1) := by decide +kernel
theorem dX8_readsEvent_1 : decode cX8_readsEvent 1 = .ok (.iload_n 1, 1) := by decide +kernel
theorem dX8_readsEvent_2 : decode cX8_readsEvent 2 = .ok (.aload_n 0, 1) := by decide +kernel
theorem dX8_readsEvent_3 : decode cX8_readsEvent 3 = .ok (.getfield 136, 3) := by decide +kernel
theorem dX8_readsEvent_6 : decode cX8_readsEvent 6 = .ok (.invokevirtual 139, 3) := by decide +kernel
theorem dX8_readsEvent_9 : decode cX8_readsEvent 9 = .ok (.istore_n 2, 1) := by decide +kernel
theorem dX8_readsEvent_10 : decode cX8_readsEvent 10 = .ok (.iload_n 2, 1) := by decide +kernel
theorem dX8_readsEvent_11 : decode cX8_readsEvent 11 = .ok (.bipush 115, 2) := by decide +kernel
theorem dX8_readsEvent_13 : decode cX8_readsEvent 13 = .ok (.if_icmp .ne 7, 3) := by decide +kernel
theorem dX8_readsEvent_16 : decode cX8_readsEvent 16 = .ok (.iconst 1, 1) := by decide +kernel
theorem dX8_readsEvent_17 : decode cX8_readsEvent 17 = .ok (.goto 34, 3) := by decide +kernel
theorem dX8_readsEvent_20 : decode cX8_readsEvent 20 = .ok (.iload_n 2, 1) := by decide +kernel
theorem dX8_readsEvent_21 : decode cX8_readsEvent 21 = .ok (.bipush 121, 2) := by decide +kernel
theorem dX8_readsEvent_23 : decode cX8_readsEvent 23 = .ok (.if_icmp .ne 7, 3) := by decide +kernel
theorem dX8_readsEvent_26 : decode cX8_readsEvent 26 = .ok (.iconst 2, 1) := by decide +kernel
theorem dX8_readsEvent_27 : decode cX8_readsEvent 27 = .ok (.goto 24, 3) := by decide +kernel
theorem dX8_readsEvent_30 : decode cX8_readsEvent 30 = .ok (.iload_n 2, 1) := by decide +kernel
theorem dX8_readsEvent_31 : decode cX8_readsEvent 31 = .ok (.bipush 110, 2) := by decide +kernel
theorem dX8_readsEvent_33 : decode cX8_readsEvent 33 = .ok (.if_icmp .ne 7, 3) := by decide +kernel
theorem dX8_readsEvent_36 : decode cX8_readsEvent 36 = .ok (.iconst 4, 1) := by decide +kernel
theorem dX8_readsEvent_37 : decode cX8_readsEvent 37 = .ok (.goto 14, 3) := by decide +kernel
theorem dX8_readsEvent_40 : decode cX8_readsEvent 40 = .ok (.iload_n 2, 1) := by decide +kernel
theorem dX8_readsEvent_41 : decode cX8_readsEvent 41 = .ok (.bipush 120, 2) := by decide +kernel
theorem dX8_readsEvent_43 : decode cX8_readsEvent 43 = .ok (.if_icmp .ne 7, 3) := by decide +kernel
theorem dX8_readsEvent_46 : decode cX8_readsEvent 46 = .ok (.iconst 5, 1) := by decide +kernel
theorem dX8_readsEvent_47 : decode cX8_readsEvent 47 = .ok (.goto 4, 3) := by decide +kernel
theorem dX8_readsEvent_50 : decode cX8_readsEvent 50 = .ok (.iconst 0, 1) := by decide +kernel
theorem dX8_readsEvent_51 : decode cX8_readsEvent 51 = .ok (.istore_n 3, 1) := by decide +kernel
theorem dX8_readsEvent_52 : decode cX8_readsEvent 52 = .ok (.iload_n 3, 1) := by decide +kernel
theorem dX8_readsEvent_53 : decode cX8_readsEvent 53 = .ok (.ifCond .ne 5, 3) := by decide +kernel
theorem dX8_readsEvent_56 : decode cX8_readsEvent 56 = .ok (.iconst 0, 1) := by decide +kernel
theorem dX8_readsEvent_57 : decode cX8_readsEvent 57 = .ok (.ireturn, 1) := by decide +kernel
theorem dX8_readsEvent_58 : decode cX8_readsEvent 58 = .ok (.aload_n 0, 1) := by decide +kernel
theorem dX8_readsEvent_59 : decode cX8_readsEvent 59 = .ok (.dup, 1) := by decide +kernel
theorem dX8_readsEvent_60 : decode cX8_readsEvent 60 = .ok (.getfield 136, 3) := by decide +kernel
theorem dX8_readsEvent_63 : decode cX8_readsEvent 63 = .ok (.iconst 1, 1) := by decide +kernel
theorem dX8_readsEvent_64 : decode cX8_readsEvent 64 = .ok (.iadd, 1) := by decide +kernel
theorem dX8_readsEvent_65 : decode cX8_readsEvent 65 = .ok (.putfield 136, 3) := by decide +kernel
theorem dX8_readsEvent_68 : decode cX8_readsEvent 68 = .ok (.aload_n 0, 1) := by decide +kernel
theorem dX8_readsEvent_69 : decode cX8_readsEvent 69 = .ok (.iload_n 1, 1) := by decide +kernel
theorem dX8_readsEvent_70 : decode cX8_readsEvent 70 = .ok (.iload_n 3, 1) := by decide +kernel
theorem dX8_readsEvent_71 : decode cX8_readsEvent 71 = .ok (.invokevirtual 201, 3) := by decide +kernel
theorem dX8_readsEvent_74 : decode cX8_readsEvent 74 = .ok (.ifCond .ne 5, 3) := by decide +kernel
theorem dX8_readsEvent_77 : decode cX8_readsEvent 77 = .ok (.iconst 0, 1) := by decide +kernel
theorem dX8_readsEvent_78 : decode cX8_readsEvent 78 = .ok (.ireturn, 1) := by decide +kernel
theorem dX8_readsEvent_79 : decode cX8_readsEvent 79 = .ok (.aload_n 0, 1) := by decide +kernel
theorem dX8_readsEvent_80 : decode cX8_readsEvent 80 = .ok (.getfield 142, 3) := by decide +kernel
theorem dX8_readsEvent_83 : decode cX8_readsEvent 83 = .ok (.istore 4, 2) := by decide +kernel
theorem dX8_readsEvent_85 : decode cX8_readsEvent 85 = .ok (.iconst 0, 1) := by decide +kernel
theorem dX8_readsEvent_86 : decode cX8_readsEvent 86 = .ok (.istore 5, 2) := by decide +kernel
theorem dX8_readsEvent_88 : decode cX8_readsEvent 88 = .ok (.iload_n 3, 1) := by decide +kernel
theorem dX8_readsEvent_89 : decode cX8_readsEvent 89 = .ok (.iconst 2, 1) := by decide +kernel
theorem dX8_readsEvent_90 : decode cX8_readsEvent 90 = .ok (.if_icmp .ne 38, 3) := by decide +kernel
theorem dX8_readsEvent_93 : decode cX8_readsEvent 93 = .ok (.aload_n 0, 1) := by decide +kernel
theorem dX8_readsEvent_94 : decode cX8_readsEvent 94 = .ok (.iload_n 1, 1) := by decide +kernel
theorem dX8_readsEvent_95 : decode cX8_readsEvent 95 = .ok (.bipush 47, 2) := by decide +kernel
theorem dX8_readsEvent_97 : decode cX8_readsEvent 97 = .ok (.invokevirtual 154, 3) := by decide +kernel
theorem dX8_readsEvent_100 : decode cX8_readsEvent 100 = .ok (.ifCond .eq 28, 3) := by decide +kernel
theorem dX8_readsEvent_103 : decode cX8_readsEvent 103 = .ok (.iconst 3, 1) := by decide +kernel
theorem dX8_readsEvent_104 : decode cX8_readsEvent 104 = .ok (.istore_n 3, 1) := by decide +kernel
theorem dX8_readsEvent_105 : decode cX8_readsEvent 105 = .ok (.aload_n 0, 1) := by decide +kernel
theorem dX8_readsEvent_106 : decode cX8_readsEvent 106 = .ok (.iload_n 1, 1) := by decide +kernel
theorem dX8_readsEvent_107 : decode cX8_readsEvent 107 = .ok (.iconst 0, 1) := by decide +kernel
theorem dX8_readsEvent_108 : decode cX8_readsEvent 108 = .ok (.aload_n 0, 1) := by decide +kernel
theorem dX8_readsEvent_109 : decode cX8_readsEvent 109 = .ok (.getfield 186, 3) := by decide +kernel
theorem dX8_readsEvent_112 : decode cX8_readsEvent 112 = .ok (.iconst 1, 1) := by decide +kernel
theorem dX8_readsEvent_113 : decode cX8_readsEvent 113 = .ok (.isub, 1) := by decide +kernel
theorem dX8_readsEvent_114 : decode cX8_readsEvent 114 = .ok (.invokevirtual 151, 3) := by decide +kernel
theorem dX8_readsEvent_117 : decode cX8_readsEvent 117 = .ok (.ifCond .ne 5, 3) := by decide +kernel
theorem dX8_readsEvent_120 : decode cX8_readsEvent 120 = .ok (.iconst 0, 1) := by decide +kernel
theorem dX8_readsEvent_121 : decode cX8_readsEvent 121 = .ok (.ireturn, 1) := by decide +kernel
theorem dX8_readsEvent_122 : decode cX8_readsEvent 122 = .ok (.aload_n 0, 1) := by decide +kernel
theorem dX8_readsEvent_123 : decode cX8_readsEvent 123 = .ok (.getfield 142, 3) := by decide +kernel
theorem dX8_readsEvent_126 : decode cX8_readsEvent 126 = .ok (.istore 5, 2) := by decide +kernel
theorem dX8_readsEvent_128 : decode cX8_readsEvent 128 = .ok (.iload_n 3, 1) := by decide +kernel
theorem dX8_readsEvent_129 : decode cX8_readsEvent 129 = .ok (.iconst 1, 1) := by decide +kernel
theorem dX8_readsEvent_130 : decode cX8_readsEvent 130 = .ok (.if_icmp .eq 8, 3) := by decide +kernel
theorem dX8_readsEvent_133 : decode cX8_readsEvent 133 = .ok (.iload_n 3, 1) := by decide +kernel
theorem dX8_readsEvent_134 : decode cX8_readsEvent 134 = .ok (.iconst 5, 1) := by decide +kernel
theorem dX8_readsEvent_135 : decode cX8_readsEvent 135 = .ok (.if_icmp .ne 7, 3) := by decide +kernel
theorem dX8_readsEvent_138 : decode cX8_readsEvent 138 = .ok (.iconst 1, 1) := by decide +kernel
theorem dX8_readsEvent_139 : decode cX8_readsEvent 139 = .ok (.goto 4, 3) := by decide +kernel
theorem dX8_readsEvent_142 : decode cX8_readsEvent 142 = .ok (.iconst 0, 1) := by decide +kernel
theorem dX8_readsEvent_143 : decode cX8_readsEvent 143 = .ok (.istore 6, 2) := by decide +kernel
theorem dX8_readsEvent_145 : decode cX8_readsEvent 145 = .ok (.aload_n 0, 1) := by decide +kernel
theorem dX8_readsEvent_146 : decode cX8_readsEvent 146 = .ok (.iload_n 1, 1) := by decide +kernel
theorem dX8_readsEvent_147 : decode cX8_readsEvent 147 = .ok (.bipush 64, 2) := by decide +kernel
theorem dX8_readsEvent_149 : decode cX8_readsEvent 149 = .ok (.invokevirtual 154, 3) := by decide +kernel
theorem dX8_readsEvent_152 : decode cX8_readsEvent 152 = .ok (.ifCond .eq 30, 3) := by decide +kernel
theorem dX8_readsEvent_155 : decode cX8_readsEvent 155 = .ok (.aload_n 0, 1) := by decide +kernel
theorem dX8_readsEvent_156 : decode cX8_readsEvent 156 = .ok (.iload_n 1, 1) := by decide +kernel
theorem dX8_readsEvent_157 : decode cX8_readsEvent 157 = .ok (.iconst 0, 1) := by decide +kernel
theorem dX8_readsEvent_158 : decode cX8_readsEvent 158 = .ok (.iload 6, 2) := by decide +kernel
theorem dX8_readsEvent_160 : decode cX8_readsEvent 160 = .ok (.ifCond .eq 12, 3) := by decide +kernel
theorem dX8_readsEvent_163 : decode cX8_readsEvent 163 = .ok (.aload_n 0, 1) := by decide +kernel
theorem dX8_readsEvent_164 : decode cX8_readsEvent 164 = .ok (.getfield 99, 3) := by decide +kernel
theorem dX8_readsEvent_167 : decode cX8_readsEvent 167 = .ok (.iconst 1, 1) := by decide +kernel
theorem dX8_readsEvent_168 : decode cX8_readsEvent 168 = .ok (.isub, 1) := by decide +kernel
theorem dX8_readsEvent_169 : decode cX8_readsEvent 169 = .ok (.goto 7, 3) := by decide +kernel
theorem dX8_readsEvent_172 : decode cX8_readsEvent 172 = .ok (.aload_n 0, 1) := by decide +kernel
theorem dX8_readsEvent_173 : decode cX8_readsEvent 173 = .ok (.getfield 99, 3) := by decide +kernel
theorem dX8_readsEvent_176 : decode cX8_readsEvent 176 = .ok (.invokevirtual 161, 3) := by decide +kernel
theorem dX8_readsEvent_179 : decode cX8_readsEvent 179 = .ok (.ifCond .ne 5, 3) := by decide +kernel
theorem dX8_readsEvent_182 : decode cX8_readsEvent 182 = .ok (.iconst 0, 1) := by decide +kernel
theorem dX8_readsEvent_183 : decode cX8_readsEvent 183 = .ok (.ireturn, 1) := by decide +kernel
theorem dX8_readsEvent_184 : decode cX8_readsEvent 184 = .ok (.aload_n 0, 1) := by decide +kernel
theorem dX8_readsEvent_185 : decode cX8_readsEvent 185 = .ok (.getfield 142, 3) := by decide +kernel
theorem dX8_readsEvent_188 : decode cX8_readsEvent 188 = .ok (.istore 7, 2) := by decide +kernel
theorem dX8_readsEvent_190 : decode cX8_readsEvent 190 = .ok (.iload_n 3, 1) := by decide +kernel
theorem dX8_readsEvent_191 : decode cX8_readsEvent 191 = .ok (.iconst 5, 1) := by decide +kernel
theorem dX8_readsEvent_192 : decode cX8_readsEvent 192 = .ok (.if_icmp .ne 37, 3) := by decide +kernel
theorem dX8_readsEvent_195 : decode cX8_readsEvent 195 = .ok (.aload_n 0, 1) := by decide +kernel
theorem dX8_readsEvent_196 : decode cX8_readsEvent 196 = .ok (.iload_n 1, 1) := by decide +kernel
theorem dX8_readsEvent_197 : decode cX8_readsEvent 197 = .ok (.bipush 45, 2) := by decide +kernel
theorem dX8_readsEvent_199 : decode cX8_readsEvent 199 = .ok (.invokevirtual 154, 3) := by decide +kernel
theorem dX8_readsEvent_202 : decode cX8_readsEvent 202 = .ok (.ifCond .eq 19, 3) := by decide +kernel
theorem dX8_readsEvent_205 : decode cX8_readsEvent 205 = .ok (.aload_n 0, 1) := by decide +kernel
theorem dX8_readsEvent_206 : decode cX8_readsEvent 206 = .ok (.iload_n 1, 1) := by decide +kernel
theorem dX8_readsEvent_207 : decode cX8_readsEvent 207 = .ok (.iload 7, 2) := by decide +kernel
theorem dX8_readsEvent_209 : decode cX8_readsEvent 209 = .ok (.aload_n 0, 1) := by decide +kernel
theorem dX8_readsEvent_210 : decode cX8_readsEvent 210 = .ok (.getfield 99, 3) := by decide +kernel
theorem dX8_readsEvent_213 : decode cX8_readsEvent 213 = .ok (.iconst 1, 1) := by decide +kernel
theorem dX8_readsEvent_214 : decode cX8_readsEvent 214 = .ok (.isub, 1) := by decide +kernel
theorem dX8_readsEvent_215 : decode cX8_readsEvent 215 = .ok (.invokevirtual 161, 3) := by decide +kernel
theorem dX8_readsEvent_218 : decode cX8_readsEvent 218 = .ok (.ifCond .ne 5, 3) := by decide +kernel
theorem dX8_readsEvent_221 : decode cX8_readsEvent 221 = .ok (.iconst 0, 1) := by decide +kernel
theorem dX8_readsEvent_222 : decode cX8_readsEvent 222 = .ok (.ireturn, 1) := by decide +kernel
theorem dX8_readsEvent_223 : decode cX8_readsEvent 223 = .ok (.aload_n 0, 1) := by decide +kernel
theorem dX8_readsEvent_224 : decode cX8_readsEvent 224 = .ok (.getfield 142, 3) := by decide +kernel
theorem dX8_readsEvent_227 : decode cX8_readsEvent 227 = .ok (.istore 5, 2) := by decide +kernel
theorem dX8_readsEvent_229 : decode cX8_readsEvent 229 = .ok (.aload_n 0, 1) := by decide +kernel
theorem dX8_readsEvent_230 : decode cX8_readsEvent 230 = .ok (.iload_n 3, 1) := by decide +kernel
theorem dX8_readsEvent_231 : decode cX8_readsEvent 231 = .ok (.iload 4, 2) := by decide +kernel
theorem dX8_readsEvent_233 : decode cX8_readsEvent 233 = .ok (.iload 5, 2) := by decide +kernel
theorem dX8_readsEvent_235 : decode cX8_readsEvent 235 = .ok (.iload 7, 2) := by decide +kernel
theorem dX8_readsEvent_237 : decode cX8_readsEvent 237 = .ok (.invokevirtual 204, 3) := by decide +kernel
theorem dX8_readsEvent_240 : decode cX8_readsEvent 240 = .ok (.iconst 1, 1) := by decide +kernel
theorem dX8_readsEvent_241 : decode cX8_readsEvent 241 = .ok (.ireturn, 1) := by decide +kernel
theorem dX8_nightFault_0 : decode cX8_nightFault 0 = .ok (.aload_n 0, 1) := by decide +kernel
theorem dX8_nightFault_1 : decode cX8_nightFault 1 = .ok (.iconst 0, 1) := by decide +kernel
theorem dX8_nightFault_2 : decode cX8_nightFault 2 = .ok (.putfield 136, 3) := by decide +kernel
theorem dX8_nightFault_5 : decode cX8_nightFault 5 = .ok (.aload_n 0, 1) := by decide +kernel
theorem dX8_nightFault_6 : decode cX8_nightFault 6 = .ok (.iconst 0, 1) := by decide +kernel
theorem dX8_nightFault_7 : decode cX8_nightFault 7 = .ok (.putfield 189, 3) := by decide +kernel
theorem dX8_nightFault_10 : decode cX8_nightFault 10 = .ok (.aload_n 0, 1) := by decide +kernel
theorem dX8_nightFault_11 : decode cX8_nightFault 11 = .ok (.iload_n 1, 1) := by decide +kernel
theorem dX8_nightFault_12 : decode cX8_nightFault 12 = .ok (.invokevirtual 176, 3) := by decide +kernel
theorem dX8_nightFault_15 : decode cX8_nightFault 15 = .ok (.aload_n 0, 1) := by decide +kernel
theorem dX8_nightFault_16 : decode cX8_nightFault 16 = .ok (.getfield 136, 3) := by decide +kernel
theorem dX8_nightFault_19 : decode cX8_nightFault 19 = .ok (.aload_n 0, 1) := by decide +kernel
theorem dX8_nightFault_20 : decode cX8_nightFault 20 = .ok (.getfield 22, 3) := by decide +kernel
theorem dX8_nightFault_23 : decode cX8_nightFault 23 = .ok (.iload_n 1, 1) := by decide +kernel
theorem dX8_nightFault_24 : decode cX8_nightFault 24 = .ok (.iaload, 1) := by decide +kernel
theorem dX8_nightFault_25 : decode cX8_nightFault 25 = .ok (.if_icmp .ge 24, 3) := by decide +kernel
theorem dX8_nightFault_28 : decode cX8_nightFault 28 = .ok (.aload_n 0, 1) := by decide +kernel
theorem dX8_nightFault_29 : decode cX8_nightFault 29 = .ok (.iload_n 1, 1) := by decide +kernel
theorem dX8_nightFault_30 : decode cX8_nightFault 30 = .ok (.invokevirtual 208, 3) := by decide +kernel
theorem dX8_nightFault_33 : decode cX8_nightFault 33 = .ok (.ifCond .ne 8, 3) := by decide +kernel
theorem dX8_nightFault_36 : decode cX8_nightFault 36 = .ok (.aload_n 0, 1) := by decide +kernel
theorem dX8_nightFault_37 : decode cX8_nightFault 37 = .ok (.getfield 136, 3) := by decide +kernel
theorem dX8_nightFault_40 : decode cX8_nightFault 40 = .ok (.ireturn, 1) := by decide +kernel
theorem dX8_nightFault_41 : decode cX8_nightFault 41 = .ok (.aload_n 0, 1) := by decide +kernel
theorem dX8_nightFault_42 : decode cX8_nightFault 42 = .ok (.iload_n 1, 1) := by decide +kernel
theorem dX8_nightFault_43 : decode cX8_nightFault 43 = .ok (.invokevirtual 176, 3) := by decide +kernel
theorem dX8_nightFault_46 : decode cX8_nightFault 46 = .ok (.goto (-31), 3) := by decide +kernel
theorem dX8_nightFault_49 : decode cX8_nightFault 49 = .ok (.bipush (-9), 2) := by decide +kernel
theorem dX8_nightFault_51 : decode cX8_nightFault 51 = .ok (.ireturn, 1) := by decide +kernel
theorem dX8_fault_0 : decode cX8_fault 0 = .ok (.iload_n 1, 1) := by decide +kernel
theorem dX8_fault_1 : decode cX8_fault 1 = .ok (.invokestatic 133, 3) := by decide +kernel
theorem dX8_fault_4 : decode cX8_fault 4 = .ok (.ifCond .ne 5, 3) := by decide +kernel
theorem dX8_fault_7 : decode cX8_fault 7 = .ok (.iconst (-1), 1) := by decide +kernel
theorem dX8_fault_8 : decode cX8_fault 8 = .ok (.ireturn, 1) := by decide +kernel
theorem dX8_fault_9 : decode cX8_fault 9 = .ok (.aload_n 0, 1) := by decide +kernel
theorem dX8_fault_10 : decode cX8_fault 10 = .ok (.getfield 22, 3) := by decide +kernel
theorem dX8_fault_13 : decode cX8_fault 13 = .ok (.iload_n 1, 1) := by decide +kernel
theorem dX8_fault_14 : decode cX8_fault 14 = .ok (.iaload, 1) := by decide +kernel
theorem dX8_fault_15 : decode cX8_fault 15 = .ok (.ifCond .ge 11, 3) := by decide +kernel
theorem dX8_fault_18 : decode cX8_fault 18 = .ok (.aload_n 0, 1) := by decide +kernel
theorem dX8_fault_19 : decode cX8_fault 19 = .ok (.iconst 1, 1) := by decide +kernel
theorem dX8_fault_20 : decode cX8_fault 20 = .ok (.invokevirtual 122, 3) := by decide +kernel
theorem dX8_fault_23 : decode cX8_fault 23 = .ok (.goto 20, 3) := by decide +kernel
theorem dX8_fault_26 : decode cX8_fault 26 = .ok (.iload_n 2, 1) := by decide +kernel
theorem dX8_fault_27 : decode cX8_fault 27 = .ok (.ifCond .eq 11, 3) := by decide +kernel
theorem dX8_fault_30 : decode cX8_fault 30 = .ok (.aload_n 0, 1) := by decide +kernel
theorem dX8_fault_31 : decode cX8_fault 31 = .ok (.iload_n 1, 1) := by decide +kernel
theorem dX8_fault_32 : decode cX8_fault 32 = .ok (.invokevirtual 211, 3) := by decide +kernel
theorem dX8_fault_35 : decode cX8_fault 35 = .ok (.goto 8, 3) := by decide +kernel
theorem dX8_fault_38 : decode cX8_fault 38 = .ok (.aload_n 0, 1) := by decide +kernel
theorem dX8_fault_39 : decode cX8_fault 39 = .ok (.iload_n 1, 1) := by decide +kernel
theorem dX8_fault_40 : decode cX8_fault 40 = .ok (.invokevirtual 214, 3) := by decide +kernel
theorem dX8_fault_43 : decode cX8_fault 43 = .ok (.ireturn, 1) := by decide +kernel
theorem dX8_house_0 : decode cX8_house 0 = .ok (.iload_n 1, 1) := by decide +kernel
theorem dX8_house_1 : decode cX8_house 1 = .ok (.invokestatic 133, 3) := by decide +kernel
theorem dX8_house_4 : decode cX8_house 4 = .ok (.ifCond .ne 5, 3) := by decide +kernel
theorem dX8_house_7 : decode cX8_house 7 = .ok (.iconst (-1), 1) := by decide +kernel
theorem dX8_house_8 : decode cX8_house 8 = .ok (.ireturn, 1) := by decide +kernel
theorem dX8_house_9 : decode cX8_house 9 = .ok (.aload_n 0, 1) := by decide +kernel
theorem dX8_house_10 : decode cX8_house 10 = .ok (.getfield 22, 3) := by decide +kernel
theorem dX8_house_13 : decode cX8_house 13 = .ok (.iload_n 1, 1) := by decide +kernel
theorem dX8_house_14 : decode cX8_house 14 = .ok (.iaload, 1) := by decide +kernel
theorem dX8_house_15 : decode cX8_house 15 = .ok (.ifCond .ge 9, 3) := by decide +kernel
theorem dX8_house_18 : decode cX8_house 18 = .ok (.aload_n 0, 1) := by decide +kernel
theorem dX8_house_19 : decode cX8_house 19 = .ok (.iconst 1, 1) := by decide +kernel
theorem dX8_house_20 : decode cX8_house 20 = .ok (.invokevirtual 122, 3) := by decide +kernel
theorem dX8_house_23 : decode cX8_house 23 = .ok (.ireturn, 1) := by decide +kernel
theorem dX8_house_24 : decode cX8_house 24 = .ok (.aload_n 0, 1) := by decide +kernel
theorem dX8_house_25 : decode cX8_house 25 = .ok (.iload_n 1, 1) := by decide +kernel
theorem dX8_house_26 : decode cX8_house 26 = .ok (.invokevirtual 214, 3) := by decide +kernel
theorem dX8_house_29 : decode cX8_house 29 = .ok (.bipush (-9), 2) := by decide +kernel
theorem dX8_house_31 : decode cX8_house 31 = .ok (.if_icmp .eq 6, 3) := by decide +kernel
theorem dX8_house_34 : decode cX8_house 34 = .ok (.bipush (-4), 2) := by decide +kernel
theorem dX8_house_36 : decode cX8_house 36 = .ok (.ireturn, 1) := by decide +kernel
theorem dX8_house_37 : decode cX8_house 37 = .ok (.aload_n 0, 1) := by decide +kernel
theorem dX8_house_38 : decode cX8_house 38 = .ok (.aload_n 0, 1) := by decide +kernel
theorem dX8_house_39 : decode cX8_house 39 = .ok (.getfield 148, 3) := by decide +kernel
theorem dX8_house_42 : decode cX8_house 42 = .ok (.putfield 95, 3) := by decide +kernel
theorem dX8_house_45 : decode cX8_house 45 = .ok (.aload_n 0, 1) := by decide +kernel
theorem dX8_house_46 : decode cX8_house 46 = .ok (.aload_n 0, 1) := by decide +kernel
theorem dX8_house_47 : decode cX8_house 47 = .ok (.getfield 145, 3) := by decide +kernel
theorem dX8_house_50 : decode cX8_house 50 = .ok (.putfield 183, 3) := by decide +kernel
theorem dX8_house_53 : decode cX8_house 53 = .ok (.aload_n 0, 1) := by decide +kernel
theorem dX8_house_54 : decode cX8_house 54 = .ok (.aload_n 0, 1) := by decide +kernel
theorem dX8_house_55 : decode cX8_house 55 = .ok (.getfield 158, 3) := by decide +kernel
theorem dX8_house_58 : decode cX8_house 58 = .ok (.putfield 186, 3) := by decide +kernel
theorem dX8_house_61 : decode cX8_house 61 = .ok (.aload_n 0, 1) := by decide +kernel
theorem dX8_house_62 : decode cX8_house 62 = .ok (.aload_n 0, 1) := by decide +kernel
theorem dX8_house_63 : decode cX8_house 63 = .ok (.getfield 164, 3) := by decide +kernel
theorem dX8_house_66 : decode cX8_house 66 = .ok (.putfield 99, 3) := by decide +kernel
theorem dX8_house_69 : decode cX8_house 69 = .ok (.iconst 0, 1) := by decide +kernel
theorem dX8_house_70 : decode cX8_house 70 = .ok (.istore_n 2, 1) := by decide +kernel
theorem dX8_house_71 : decode cX8_house 71 = .ok (.iload_n 2, 1) := by decide +kernel
theorem dX8_house_72 : decode cX8_house 72 = .ok (.bipush 24, 2) := by decide +kernel
theorem dX8_house_74 : decode cX8_house 74 = .ok (.if_icmp .ge 21, 3) := by decide +kernel
theorem dX8_house_77 : decode cX8_house 77 = .ok (.aload_n 0, 1) := by decide +kernel
theorem dX8_house_78 : decode cX8_house 78 = .ok (.getfield 29, 3) := by decide +kernel
theorem dX8_house_81 : decode cX8_house 81 = .ok (.iload_n 2, 1) := by decide +kernel
theorem dX8_house_82 : decode cX8_house 82 = .ok (.aload_n 0, 1) := by decide +kernel
theorem dX8_house_83 : decode cX8_house 83 = .ok (.getfield 35, 3) := by decide +kernel
theorem dX8_house_86 : decode cX8_house 86 = .ok (.iload_n 2, 1) := by decide +kernel
theorem dX8_house_87 : decode cX8_house 87 = .ok (.iaload, 1) := by decide +kernel
theorem dX8_house_88 : decode cX8_house 88 = .ok (.iastore, 1) := by decide +kernel
theorem dX8_house_89 : decode cX8_house 89 = .ok (.iinc 2 1, 3) := by decide +kernel
theorem dX8_house_92 : decode cX8_house 92 = .ok (.goto (-21), 3) := by decide +kernel
theorem dX8_house_95 : decode cX8_house 95 = .ok (.iconst 0, 1) := by decide +kernel
theorem dX8_house_96 : decode cX8_house 96 = .ok (.istore_n 2, 1) := by decide +kernel
theorem dX8_house_97 : decode cX8_house 97 = .ok (.iload_n 2, 1) := by decide +kernel
theorem dX8_house_98 : decode cX8_house 98 = .ok (.bipush 6, 2) := by decide +kernel
theorem dX8_house_100 : decode cX8_house 100 = .ok (.if_icmp .ge 21, 3) := by decide +kernel
theorem dX8_house_103 : decode cX8_house 103 = .ok (.aload_n 0, 1) := by decide +kernel
theorem dX8_house_104 : decode cX8_house 104 = .ok (.getfield 32, 3) := by decide +kernel
theorem dX8_house_107 : decode cX8_house 107 = .ok (.iload_n 2, 1) := by decide +kernel
theorem dX8_house_108 : decode cX8_house 108 = .ok (.aload_n 0, 1) := by decide +kernel
theorem dX8_house_109 : decode cX8_house 109 = .ok (.getfield 38, 3) := by decide +kernel
theorem dX8_house_112 : decode cX8_house 112 = .ok (.iload_n 2, 1) := by decide +kernel
theorem dX8_house_113 : decode cX8_house 113 = .ok (.iaload, 1) := by decide +kernel
theorem dX8_house_114 : decode cX8_house 114 = .ok (.iastore, 1) := by decide +kernel
theorem dX8_house_115 : decode cX8_house 115 = .ok (.iinc 2 1, 3) := by decide +kernel
theorem dX8_house_118 : decode cX8_house 118 = .ok (.goto (-21), 3) := by decide +kernel
theorem dX8_house_121 : decode cX8_house 121 = .ok (.aload_n 0, 1) := by decide +kernel
theorem dX8_house_122 : decode cX8_house 122 = .ok (.iconst 0, 1) := by decide +kernel
theorem dX8_house_123 : decode cX8_house 123 = .ok (.putfield 217, 3) := by decide +kernel
theorem dX8_house_126 : decode cX8_house 126 = .ok (.aload_n 0, 1) := by decide +kernel
theorem dX8_house_127 : decode cX8_house 127 = .ok (.getfield 183, 3) := by decide +kernel
theorem dX8_house_130 : decode cX8_house 130 = .ok (.ireturn, 1) := by decide +kernel
theorem dX8_comes_0 : decode cX8_comes 0 = .ok (.aload_n 0, 1) := by decide +kernel
theorem dX8_comes_1 : decode cX8_comes 1 = .ok (.getfield 41, 3) := by decide +kernel
theorem dX8_comes_4 : decode cX8_comes 4 = .ok (.iconst 4, 1) := by decide +kernel
theorem dX8_comes_5 : decode cX8_comes 5 = .ok (.aload_n 0, 1) := by decide +kernel
theorem dX8_comes_6 : decode cX8_comes 6 = .ok (.getfield 217, 3) := by decide +kernel
theorem dX8_comes_9 : decode cX8_comes 9 = .ok (.imul, 1) := by decide +kernel
theorem dX8_comes_10 : decode cX8_comes 10 = .ok (.iload_n 1, 1) := by decide +kernel
theorem dX8_comes_11 : decode cX8_comes 11 = .ok (.iastore, 1) := by decide +kernel
theorem dX8_comes_12 : decode cX8_comes 12 = .ok (.aload_n 0, 1) := by decide +kernel
theorem dX8_comes_13 : decode cX8_comes 13 = .ok (.getfield 41, 3) := by decide +kernel
theorem dX8_comes_16 : decode cX8_comes 16 = .ok (.iconst 4, 1) := by decide +kernel
theorem dX8_comes_17 : decode cX8_comes 17 = .ok (.aload_n 0, 1) := by decide +kernel
theorem dX8_comes_18 : decode cX8_comes 18 = .ok (.getfield 217, 3) := by decide +kernel
theorem dX8_comes_21 : decode cX8_comes 21 = .ok (.imul, 1) := by decide +kernel
theorem dX8_comes_22 : decode cX8_comes 22 = .ok (.iconst 1, 1) := by decide +kernel
theorem dX8_comes_23 : decode cX8_comes 23 = .ok (.iadd, 1) := by decide +kernel
theorem dX8_comes_24 : decode cX8_comes 24 = .ok (.iload_n 2, 1) := by decide +kernel
theorem dX8_comes_25 : decode cX8_comes 25 = .ok (.iastore, 1) := by decide +kernel
theorem dX8_comes_26 : decode cX8_comes 26 = .ok (.aload_n 0, 1) := by decide +kernel
theorem dX8_comes_27 : decode cX8_comes 27 = .ok (.getfield 41, 3) := by decide +kernel
theorem dX8_comes_30 : decode cX8_comes 30 = .ok (.iconst 4, 1) := by decide +kernel
theorem dX8_comes_31 : decode cX8_comes 31 = .ok (.aload_n 0, 1) := by decide +kernel
theorem dX8_comes_32 : decode cX8_comes 32 = .ok (.getfield 217, 3) := by decide +kernel
theorem dX8_comes_35 : decode cX8_comes 35 = .ok (.imul, 1) := by decide +kernel
theorem dX8_comes_36 : decode cX8_comes 36 = .ok (.iconst 2, 1) := by decide +kernel
theorem dX8_comes_37 : decode cX8_comes 37 = .ok (.iadd, 1) := by decide +kernel
theorem dX8_comes_38 : decode cX8_comes 38 = .ok (.iload_n 3, 1) := by decide +kernel
theorem dX8_comes_39 : decode cX8_comes 39 = .ok (.iastore, 1) := by decide +kernel
theorem dX8_comes_40 : decode cX8_comes 40 = .ok (.aload_n 0, 1) := by decide +kernel
theorem dX8_comes_41 : decode cX8_comes 41 = .ok (.getfield 41, 3) := by decide +kernel
theorem dX8_comes_44 : decode cX8_comes 44 = .ok (.iconst 4, 1) := by decide +kernel
theorem dX8_comes_45 : decode cX8_comes 45 = .ok (.aload_n 0, 1) := by decide +kernel
theorem dX8_comes_46 : decode cX8_comes 46 = .ok (.getfield 217, 3) := by decide +kernel
theorem dX8_comes_49 : decode cX8_comes 49 = .ok (.imul, 1) := by decide +kernel
theorem dX8_comes_50 : decode cX8_comes 50 = .ok (.iconst 3, 1) := by decide +kernel
theorem dX8_comes_51 : decode cX8_comes 51 = .ok (.iadd, 1) := by decide +kernel
theorem dX8_comes_52 : decode cX8_comes 52 = .ok (.iload 4, 2) := by decide +kernel
theorem dX8_comes_54 : decode cX8_comes 54 = .ok (.iastore, 1) := by decide +kernel
theorem dX8_comes_55 : decode cX8_comes 55 = .ok (.aload_n 0, 1) := by decide +kernel
theorem dX8_comes_56 : decode cX8_comes 56 = .ok (.dup, 1) := by decide +kernel
theorem dX8_comes_57 : decode cX8_comes 57 = .ok (.getfield 217, 3) := by decide +kernel
theorem dX8_comes_60 : decode cX8_comes 60 = .ok (.iconst 1, 1) := by decide +kernel
theorem dX8_comes_61 : decode cX8_comes 61 = .ok (.iadd, 1) := by decide +kernel
theorem dX8_comes_62 : decode cX8_comes 62 = .ok (.putfield 217, 3) := by decide +kernel
theorem dX8_comes_65 : decode cX8_comes 65 = .ok (.aload_n 0, 1) := by decide +kernel
theorem dX8_comes_66 : decode cX8_comes 66 = .ok (.getfield 217, 3) := by decide +kernel
theorem dX8_comes_69 : decode cX8_comes 69 = .ok (.iconst 1, 1) := by decide +kernel
theorem dX8_comes_70 : decode cX8_comes 70 = .ok (.isub, 1) := by decide +kernel
theorem dX8_comes_71 : decode cX8_comes 71 = .ok (.ireturn, 1) := by decide +kernel
theorem dX8_night_0 : decode cX8_night 0 = .ok (.iload_n 1, 1) := by decide +kernel
theorem dX8_night_1 : decode cX8_night 1 = .ok (.invokestatic 133, 3) := by decide +kernel
theorem dX8_night_4 : decode cX8_night 4 = .ok (.ifCond .ne 5, 3) := by decide +kernel
theorem dX8_night_7 : decode cX8_night 7 = .ok (.iconst (-1), 1) := by decide +kernel
theorem dX8_night_8 : decode cX8_night 8 = .ok (.ireturn, 1) := by decide +kernel
theorem dX8_night_9 : decode cX8_night 9 = .ok (.aload_n 0, 1) := by decide +kernel
theorem dX8_night_10 : decode cX8_night 10 = .ok (.getfield 22, 3) := by decide +kernel
theorem dX8_night_13 : decode cX8_night 13 = .ok (.iload_n 1, 1) := by decide +kernel
theorem dX8_night_14 : decode cX8_night 14 = .ok (.iaload, 1) := by decide +kernel
theorem dX8_night_15 : decode cX8_night 15 = .ok (.ifCond .ge 9, 3) := by decide +kernel
theorem dX8_night_18 : decode cX8_night 18 = .ok (.aload_n 0, 1) := by decide +kernel
theorem dX8_night_19 : decode cX8_night 19 = .ok (.iconst 1, 1) := by decide +kernel
theorem dX8_night_20 : decode cX8_night 20 = .ok (.invokevirtual 122, 3) := by decide +kernel
theorem dX8_night_23 : decode cX8_night 23 = .ok (.ireturn, 1) := by decide +kernel
theorem dX8_night_24 : decode cX8_night 24 = .ok (.aload_n 0, 1) := by decide +kernel
theorem dX8_night_25 : decode cX8_night 25 = .ok (.iload_n 1, 1) := by decide +kernel
theorem dX8_night_26 : decode cX8_night 26 = .ok (.invokevirtual 211, 3) := by decide +kernel
theorem dX8_night_29 : decode cX8_night 29 = .ok (.bipush (-9), 2) := by decide +kernel
theorem dX8_night_31 : decode cX8_night 31 = .ok (.if_icmp .eq 6, 3) := by decide +kernel
theorem dX8_night_34 : decode cX8_night 34 = .ok (.bipush (-4), 2) := by decide +kernel
theorem dX8_night_36 : decode cX8_night 36 = .ok (.ireturn, 1) := by decide +kernel
theorem dX8_night_37 : decode cX8_night 37 = .ok (.aload_n 0, 1) := by decide +kernel
theorem dX8_night_38 : decode cX8_night 38 = .ok (.getfield 217, 3) := by decide +kernel
theorem dX8_night_41 : decode cX8_night 41 = .ok (.aload_n 0, 1) := by decide +kernel
theorem dX8_night_42 : decode cX8_night 42 = .ok (.getfield 189, 3) := by decide +kernel
theorem dX8_night_45 : decode cX8_night 45 = .ok (.iadd, 1) := by decide +kernel
theorem dX8_night_46 : decode cX8_night 46 = .ok (.bipush 24, 2) := by decide +kernel
theorem dX8_night_48 : decode cX8_night 48 = .ok (.if_icmp .le 6, 3) := by decide +kernel
theorem dX8_night_51 : decode cX8_night 51 = .ok (.bipush (-2), 2) := by decide +kernel
theorem dX8_night_53 : decode cX8_night 53 = .ok (.ireturn, 1) := by decide +kernel
theorem dX8_night_54 : decode cX8_night 54 = .ok (.iconst 0, 1) := by decide +kernel
theorem dX8_night_55 : decode cX8_night 55 = .ok (.istore_n 2, 1) := by decide +kernel
theorem dX8_night_56 : decode cX8_night 56 = .ok (.iload_n 2, 1) := by decide +kernel
theorem dX8_night_57 : decode cX8_night 57 = .ok (.aload_n 0, 1) := by decide +kernel
theorem dX8_night_58 : decode cX8_night 58 = .ok (.getfield 189, 3) := by decide +kernel
theorem dX8_night_61 : decode cX8_night 61 = .ok (.if_icmp .ge 52, 3) := by decide +kernel
theorem dX8_night_64 : decode cX8_night 64 = .ok (.aload_n 0, 1) := by decide +kernel
theorem dX8_night_65 : decode cX8_night 65 = .ok (.aload_n 0, 1) := by decide +kernel
theorem dX8_night_66 : decode cX8_night 66 = .ok (.getfield 44, 3) := by decide +kernel
theorem dX8_night_69 : decode cX8_night 69 = .ok (.iconst 4, 1) := by decide +kernel
theorem dX8_night_70 : decode cX8_night 70 = .ok (.iload_n 2, 1) := by decide +kernel
theorem dX8_night_71 : decode cX8_night 71 = .ok (.imul, 1) := by decide +kernel
theorem dX8_night_72 : decode cX8_night 72 = .ok (.iaload, 1) := by decide +kernel
theorem dX8_night_73 : decode cX8_night 73 = .ok (.aload_n 0, 1) := by decide +kernel
theorem dX8_night_74 : decode cX8_night 74 = .ok (.getfield 44, 3) := by decide +kernel
theorem dX8_night_77 : decode cX8_night 77 = .ok (.iconst 4, 1) := by decide +kernel
theorem dX8_night_78 : decode cX8_night 78 = .ok (.iload_n 2, 1) := by decide +kernel
theorem dX8_night_79 : decode cX8_night 79 = .ok (.imul, 1) := by decide +kernel
theorem dX8_night_80 : decode cX8_night 80 = .ok (.iconst 1, 1) := by decide +kernel
theorem dX8_night_81 : decode cX8_night 81 = .ok (.iadd, 1) := by decide +kernel
theorem dX8_night_82 : decode cX8_night 82 = .ok (.iaload, 1) := by decide +kernel
theorem dX8_night_83 : decode cX8_night 83 = .ok (.aload_n 0, 1) := by decide +kernel
theorem dX8_night_84 : decode cX8_night 84 = .ok (.getfield 44, 3) := by decide +kernel
theorem dX8_night_87 : decode cX8_night 87 = .ok (.iconst 4, 1) := by decide +kernel
theorem dX8_night_88 : decode cX8_night 88 = .ok (.iload_n 2, 1) := by decide +kernel
theorem dX8_night_89 : decode cX8_night 89 = .ok (.imul, 1) := by decide +kernel
theorem dX8_night_90 : decode cX8_night 90 = .ok (.iconst 2, 1) := by decide +kernel
theorem dX8_night_91 : decode cX8_night 91 = .ok (.iadd, 1) := by decide +kernel
theorem dX8_night_92 : decode cX8_night 92 = .ok (.iaload, 1) := by decide +kernel
theorem dX8_night_93 : decode cX8_night 93 = .ok (.aload_n 0, 1) := by decide +kernel
theorem dX8_night_94 : decode cX8_night 94 = .ok (.getfield 44, 3) := by decide +kernel
theorem dX8_night_97 : decode cX8_night 97 = .ok (.iconst 4, 1) := by decide +kernel
theorem dX8_night_98 : decode cX8_night 98 = .ok (.iload_n 2, 1) := by decide +kernel
theorem dX8_night_99 : decode cX8_night 99 = .ok (.imul, 1) := by decide +kernel
theorem dX8_night_100 : decode cX8_night 100 = .ok (.iconst 3, 1) := by decide +kernel
theorem dX8_night_101 : decode cX8_night 101 = .ok (.iadd, 1) := by decide +kernel
theorem dX8_night_102 : decode cX8_night 102 = .ok (.iaload, 1) := by decide +kernel
theorem dX8_night_103 : decode cX8_night 103 = .ok (.invokevirtual 220, 3) := by decide +kernel
theorem dX8_night_106 : decode cX8_night 106 = .ok (.pop, 1) := by decide +kernel
theorem dX8_night_107 : decode cX8_night 107 = .ok (.iinc 2 1, 3) := by decide +kernel
theorem dX8_night_110 : decode cX8_night 110 = .ok (.goto (-54), 3) := by decide +kernel
theorem dX8_night_113 : decode cX8_night 113 = .ok (.aload_n 0, 1) := by decide +kernel
theorem dX8_night_114 : decode cX8_night 114 = .ok (.getfield 189, 3) := by decide +kernel
theorem dX8_night_117 : decode cX8_night 117 = .ok (.ireturn, 1) := by decide +kernel
theorem dX8_isEventTold_0 : decode cX8_isEventTold 0 = .ok (.iload_n 1, 1) := by decide +kernel
theorem dX8_isEventTold_1 : decode cX8_isEventTold 1 = .ok (.tableswitch 205 1 5 #[35, 72, 99, 134, 161], 35) := by decide +kernel
theorem dX8_isEventTold_36 : decode cX8_isEventTold 36 = .ok (.aload_n 0, 1) := by decide +kernel
theorem dX8_isEventTold_37 : decode cX8_isEventTold 37 = .ok (.iload_n 2, 1) := by decide +kernel
theorem dX8_isEventTold_38 : decode cX8_isEventTold 38 = .ok (.invokevirtual 192, 3) := by decide +kernel
theorem dX8_isEventTold_41 : decode cX8_isEventTold 41 = .ok (.ifCond .eq 30, 3) := by decide +kernel
theorem dX8_isEventTold_44 : decode cX8_isEventTold 44 = .ok (.aload_n 0, 1) := by decide +kernel
theorem dX8_isEventTold_45 : decode cX8_isEventTold 45 = .ok (.iload_n 2, 1) := by decide +kernel
theorem dX8_isEventTold_46 : decode cX8_isEventTold 46 = .ok (.invokevirtual 195, 3) := by decide +kernel
theorem dX8_isEventTold_49 : decode cX8_isEventTold 49 = .ok (.ifCond .eq 22, 3) := by decide +kernel
theorem dX8_isEventTold_52 : decode cX8_isEventTold 52 = .ok (.iload 4, 2) := by decide +kernel
theorem dX8_isEventTold_54 : decode cX8_isEventTold 54 = .ok (.iconst 0, 1) := by decide +kernel
theorem dX8_isEventTold_55 : decode cX8_isEventTold 55 = .ok (.aload_n 0, 1) := by decide +kernel
theorem dX8_isEventTold_56 : decode cX8_isEventTold 56 = .ok (.getfield 99, 3) := by decide +kernel
theorem dX8_isEventTold_59 : decode cX8_isEventTold 59 = .ok (.iconst 1, 1) := by decide +kernel
theorem dX8_isEventTold_60 : decode cX8_isEventTold 60 = .ok (.isub, 1) := by decide +kernel
theorem dX8_isEventTold_61 : decode cX8_isEventTold 61 = .ok (.invokestatic 105, 3) := by decide +kernel
theorem dX8_isEventTold_64 : decode cX8_isEventTold 64 = .ok (.ifCond .eq 7, 3) := by decide +kernel
theorem dX8_isEventTold_67 : decode cX8_isEventTold 67 = .ok (.iconst 1, 1) := by decide +kernel
theorem dX8_isEventTold_68 : decode cX8_isEventTold 68 = .ok (.goto 4, 3) := by decide +kernel
theorem dX8_isEventTold_71 : decode cX8_isEventTold 71 = .ok (.iconst 0, 1) := by decide +kernel
theorem dX8_isEventTold_72 : decode cX8_isEventTold 72 = .ok (.ireturn, 1) := by decide +kernel
theorem dX8_isEventTold_73 : decode cX8_isEventTold 73 = .ok (.aload_n 0, 1) := by decide +kernel
theorem dX8_isEventTold_74 : decode cX8_isEventTold 74 = .ok (.iload_n 2, 1) := by decide +kernel
theorem dX8_isEventTold_75 : decode cX8_isEventTold 75 = .ok (.invokevirtual 198, 3) := by decide +kernel
theorem dX8_isEventTold_78 : decode cX8_isEventTold 78 = .ok (.ifCond .eq 20, 3) := by decide +kernel
theorem dX8_isEventTold_81 : decode cX8_isEventTold 81 = .ok (.iload 4, 2) := by decide +kernel
theorem dX8_isEventTold_83 : decode cX8_isEventTold 83 = .ok (.iconst 0, 1) := by decide +kernel
theorem dX8_isEventTold_84 : decode cX8_isEventTold 84 = .ok (.aload_n 0, 1) := by decide +kernel
theorem dX8_isEventTold_85 : decode cX8_isEventTold 85 = .ok (.getfield 99, 3) := by decide +kernel
theorem dX8_isEventTold_88 : decode cX8_isEventTold 88 = .ok (.invokestatic 105, 3) := by decide +kernel
theorem dX8_isEventTold_91 : decode cX8_isEventTold 91 = .ok (.ifCond .eq 7, 3) := by decide +kernel
theorem dX8_isEventTold_94 : decode cX8_isEventTold 94 = .ok (.iconst 1, 1) := by decide +kernel
theorem dX8_isEventTold_95 : decode cX8_isEventTold 95 = .ok (.goto 4, 3) := by decide +kernel
theorem dX8_isEventTold_98 : decode cX8_isEventTold 98 = .ok (.iconst 0, 1) := by decide +kernel
theorem dX8_isEventTold_99 : decode cX8_isEventTold 99 = .ok (.ireturn, 1) := by decide +kernel
theorem dX8_isEventTold_100 : decode cX8_isEventTold 100 = .ok (.aload_n 0, 1) := by decide +kernel
theorem dX8_isEventTold_101 : decode cX8_isEventTold 101 = .ok (.iload_n 2, 1) := by decide +kernel
theorem dX8_isEventTold_102 : decode cX8_isEventTold 102 = .ok (.invokevirtual 198, 3) := by decide +kernel
theorem dX8_isEventTold_105 : decode cX8_isEventTold 105 = .ok (.ifCond .eq 28, 3) := by decide +kernel
theorem dX8_isEventTold_108 : decode cX8_isEventTold 108 = .ok (.aload_n 0, 1) := by decide +kernel
theorem dX8_isEventTold_109 : decode cX8_isEventTold 109 = .ok (.iload_n 3, 1) := by decide +kernel
theorem dX8_isEventTold_110 : decode cX8_isEventTold 110 = .ok (.invokevirtual 224, 3) := by decide +kernel
theorem dX8_isEventTold_113 : decode cX8_isEventTold 113 = .ok (.ifCond .eq 20, 3) := by decide +kernel
theorem dX8_isEventTold_116 : decode cX8_isEventTold 116 = .ok (.iload 4, 2) := by decide +kernel
theorem dX8_isEventTold_118 : decode cX8_isEventTold 118 = .ok (.iconst 0, 1) := by decide +kernel
theorem dX8_isEventTold_119 : decode cX8_isEventTold 119 = .ok (.aload_n 0, 1) := by decide +kernel
theorem dX8_isEventTold_120 : decode cX8_isEventTold 120 = .ok (.getfield 99, 3) := by decide +kernel
theorem dX8_isEventTold_123 : decode cX8_isEventTold 123 = .ok (.invokestatic 105, 3) := by decide +kernel
theorem dX8_isEventTold_126 : decode cX8_isEventTold 126 = .ok (.ifCond .eq 7, 3) := by decide +kernel
theorem dX8_isEventTold_129 : decode cX8_isEventTold 129 = .ok (.iconst 1, 1) := by decide +kernel
theorem dX8_isEventTold_130 : decode cX8_isEventTold 130 = .ok (.goto 4, 3) := by decide +kernel
theorem dX8_isEventTold_133 : decode cX8_isEventTold 133 = .ok (.iconst 0, 1) := by decide +kernel
theorem dX8_isEventTold_134 : decode cX8_isEventTold 134 = .ok (.ireturn, 1) := by decide +kernel
theorem dX8_isEventTold_135 : decode cX8_isEventTold 135 = .ok (.aload_n 0, 1) := by decide +kernel
theorem dX8_isEventTold_136 : decode cX8_isEventTold 136 = .ok (.iload_n 2, 1) := by decide +kernel
theorem dX8_isEventTold_137 : decode cX8_isEventTold 137 = .ok (.invokevirtual 198, 3) := by decide +kernel
theorem dX8_isEventTold_140 : decode cX8_isEventTold 140 = .ok (.ifCond .eq 20, 3) := by decide +kernel
theorem dX8_isEventTold_143 : decode cX8_isEventTold 143 = .ok (.iload 4, 2) := by decide +kernel
theorem dX8_isEventTold_145 : decode cX8_isEventTold 145 = .ok (.iconst 0, 1) := by decide +kernel
theorem dX8_isEventTold_146 : decode cX8_isEventTold 146 = .ok (.aload_n 0, 1) := by decide +kernel
theorem dX8_isEventTold_147 : decode cX8_isEventTold 147 = .ok (.getfield 99, 3) := by decide +kernel
theorem dX8_isEventTold_150 : decode cX8_isEventTold 150 = .ok (.invokestatic 105, 3) := by decide +kernel
theorem dX8_isEventTold_153 : decode cX8_isEventTold 153 = .ok (.ifCond .eq 7, 3) := by decide +kernel
theorem dX8_isEventTold_156 : decode cX8_isEventTold 156 = .ok (.iconst 1, 1) := by decide +kernel
theorem dX8_isEventTold_157 : decode cX8_isEventTold 157 = .ok (.goto 4, 3) := by decide +kernel
theorem dX8_isEventTold_160 : decode cX8_isEventTold 160 = .ok (.iconst 0, 1) := by decide +kernel
theorem dX8_isEventTold_161 : decode cX8_isEventTold 161 = .ok (.ireturn, 1) := by decide +kernel
theorem dX8_isEventTold_162 : decode cX8_isEventTold 162 = .ok (.aload_n 0, 1) := by decide +kernel
theorem dX8_isEventTold_163 : decode cX8_isEventTold 163 = .ok (.iload_n 2, 1) := by decide +kernel
theorem dX8_isEventTold_164 : decode cX8_isEventTold 164 = .ok (.invokevirtual 192, 3) := by decide +kernel
theorem dX8_isEventTold_167 : decode cX8_isEventTold 167 = .ok (.ifCond .eq 37, 3) := by decide +kernel
theorem dX8_isEventTold_170 : decode cX8_isEventTold 170 = .ok (.iload 4, 2) := by decide +kernel
theorem dX8_isEventTold_172 : decode cX8_isEventTold 172 = .ok (.iconst 0, 1) := by decide +kernel
theorem dX8_isEventTold_173 : decode cX8_isEventTold 173 = .ok (.aload_n 0, 1) := by decide +kernel
theorem dX8_isEventTold_174 : decode cX8_isEventTold 174 = .ok (.getfield 99, 3) := by decide +kernel
theorem dX8_isEventTold_177 : decode cX8_isEventTold 177 = .ok (.iconst 1, 1) := by decide +kernel
theorem dX8_isEventTold_178 : decode cX8_isEventTold 178 = .ok (.isub, 1) := by decide +kernel
theorem dX8_isEventTold_179 : decode cX8_isEventTold 179 = .ok (.invokestatic 105, 3) := by decide +kernel
theorem dX8_isEventTold_182 : decode cX8_isEventTold 182 = .ok (.ifCond .eq 22, 3) := by decide +kernel
theorem dX8_isEventTold_185 : decode cX8_isEventTold 185 = .ok (.iload_n 3, 1) := by decide +kernel
theorem dX8_isEventTold_186 : decode cX8_isEventTold 186 = .ok (.iload 4, 2) := by decide +kernel
theorem dX8_isEventTold_188 : decode cX8_isEventTold 188 = .ok (.aload_n 0, 1) := by decide +kernel
theorem dX8_isEventTold_189 : decode cX8_isEventTold 189 = .ok (.getfield 99, 3) := by decide +kernel
theorem dX8_isEventTold_192 : decode cX8_isEventTold 192 = .ok (.iconst 1, 1) := by decide +kernel
theorem dX8_isEventTold_193 : decode cX8_isEventTold 193 = .ok (.isub, 1) := by decide +kernel
theorem dX8_isEventTold_194 : decode cX8_isEventTold 194 = .ok (.invokestatic 105, 3) := by decide +kernel
theorem dX8_isEventTold_197 : decode cX8_isEventTold 197 = .ok (.ifCond .eq 7, 3) := by decide +kernel
theorem dX8_isEventTold_200 : decode cX8_isEventTold 200 = .ok (.iconst 1, 1) := by decide +kernel
theorem dX8_isEventTold_201 : decode cX8_isEventTold 201 = .ok (.goto 4, 3) := by decide +kernel
theorem dX8_isEventTold_204 : decode cX8_isEventTold 204 = .ok (.iconst 0, 1) := by decide +kernel
theorem dX8_isEventTold_205 : decode cX8_isEventTold 205 = .ok (.ireturn, 1) := by decide +kernel
theorem dX8_isEventTold_206 : decode cX8_isEventTold 206 = .ok (.iconst 0, 1) := by decide +kernel
theorem dX8_isEventTold_207 : decode cX8_isEventTold 207 = .ok (.ireturn, 1) := by decide +kernel
theorem dX8_event_0 : decode cX8_event 0 = .ok (.aload_n 0, 1) := by decide +kernel
theorem dX8_event_1 : decode cX8_event 1 = .ok (.iload_n 1, 1) := by decide +kernel
theorem dX8_event_2 : decode cX8_event 2 = .ok (.iload_n 2, 1) := by decide +kernel
theorem dX8_event_3 : decode cX8_event 3 = .ok (.iload_n 3, 1) := by decide +kernel
theorem dX8_event_4 : decode cX8_event 4 = .ok (.iload 4, 2) := by decide +kernel
theorem dX8_event_6 : decode cX8_event 6 = .ok (.invokevirtual 227, 3) := by decide +kernel
theorem dX8_event_9 : decode cX8_event 9 = .ok (.ifCond .ne 5, 3) := by decide +kernel
theorem dX8_event_12 : decode cX8_event 12 = .ok (.iconst (-1), 1) := by decide +kernel
theorem dX8_event_13 : decode cX8_event 13 = .ok (.ireturn, 1) := by decide +kernel
theorem dX8_event_14 : decode cX8_event 14 = .ok (.aload_n 0, 1) := by decide +kernel
theorem dX8_event_15 : decode cX8_event 15 = .ok (.getfield 217, 3) := by decide +kernel
theorem dX8_event_18 : decode cX8_event 18 = .ok (.bipush 24, 2) := by decide +kernel
theorem dX8_event_20 : decode cX8_event 20 = .ok (.if_icmp .ne 8, 3) := by decide +kernel
theorem dX8_event_23 : decode cX8_event 23 = .ok (.bipush (-2), 2) := by decide +kernel
theorem dX8_event_25 : decode cX8_event 25 = .ok (.goto 26, 3) := by decide +kernel
theorem dX8_event_28 : decode cX8_event 28 = .ok (.aload_n 0, 1) := by decide +kernel
theorem dX8_event_29 : decode cX8_event 29 = .ok (.iload_n 1, 1) := by decide +kernel
theorem dX8_event_30 : decode cX8_event 30 = .ok (.iload_n 2, 1) := by decide +kernel
theorem dX8_event_31 : decode cX8_event 31 = .ok (.iload_n 1, 1) := by decide +kernel
theorem dX8_event_32 : decode cX8_event 32 = .ok (.iconst 3, 1) := by decide +kernel
theorem dX8_event_33 : decode cX8_event 33 = .ok (.if_icmp .eq 8, 3) := by decide +kernel
theorem dX8_event_36 : decode cX8_event 36 = .ok (.iload_n 1, 1) := by decide +kernel
theorem dX8_event_37 : decode cX8_event 37 = .ok (.iconst 5, 1) := by decide +kernel
theorem dX8_event_38 : decode cX8_event 38 = .ok (.if_icmp .ne 7, 3) := by decide +kernel
theorem dX8_event_41 : decode cX8_event 41 = .ok (.iload_n 3, 1) := by decide +kernel
theorem dX8_event_42 : decode cX8_event 42 = .ok (.goto 4, 3) := by decide +kernel
theorem dX8_event_45 : decode cX8_event 45 = .ok (.iconst 0, 1) := by decide +kernel
theorem dX8_event_46 : decode cX8_event 46 = .ok (.iload 4, 2) := by decide +kernel
theorem dX8_event_48 : decode cX8_event 48 = .ok (.invokevirtual 220, 3) := by decide +kernel
theorem dX8_event_51 : decode cX8_event 51 = .ok (.ireturn, 1) := by decide +kernel
theorem dX8_back_0 : decode cX8_back 0 = .ok (.iload_n 1, 1) := by decide +kernel
theorem dX8_back_1 : decode cX8_back 1 = .ok (.iconst 0, 1) := by decide +kernel
theorem dX8_back_2 : decode cX8_back 2 = .ok (.aload_n 0, 1) := by decide +kernel
theorem dX8_back_3 : decode cX8_back 3 = .ok (.getfield 217, 3) := by decide +kernel
theorem dX8_back_6 : decode cX8_back 6 = .ok (.invokestatic 105, 3) := by decide +kernel
theorem dX8_back_9 : decode cX8_back 9 = .ok (.ifCond .ne 5, 3) := by decide +kernel
theorem dX8_back_12 : decode cX8_back 12 = .ok (.iconst (-1), 1) := by decide +kernel
theorem dX8_back_13 : decode cX8_back 13 = .ok (.ireturn, 1) := by decide +kernel
theorem dX8_back_14 : decode cX8_back 14 = .ok (.aload_n 0, 1) := by decide +kernel
theorem dX8_back_15 : decode cX8_back 15 = .ok (.getfield 217, 3) := by decide +kernel
theorem dX8_back_18 : decode cX8_back 18 = .ok (.iload_n 1, 1) := by decide +kernel
theorem dX8_back_19 : decode cX8_back 19 = .ok (.isub, 1) := by decide +kernel
theorem dX8_back_20 : decode cX8_back 20 = .ok (.istore_n 2, 1) := by decide +kernel
theorem dX8_back_21 : decode cX8_back 21 = .ok (.aload_n 0, 1) := by decide +kernel
theorem dX8_back_22 : decode cX8_back 22 = .ok (.iload_n 1, 1) := by decide +kernel
theorem dX8_back_23 : decode cX8_back 23 = .ok (.putfield 217, 3) := by decide +kernel
theorem dX8_back_26 : decode cX8_back 26 = .ok (.iload_n 2, 1) := by decide +kernel
theorem dX8_back_27 : decode cX8_back 27 = .ok (.ireturn, 1) := by decide +kernel
theorem dX8_isEvent_0 : decode cX8_isEvent 0 = .ok (.iload_n 1, 1) := by decide +kernel
theorem dX8_isEvent_1 : decode cX8_isEvent 1 = .ok (.iconst 0, 1) := by decide +kernel
theorem dX8_isEvent_2 : decode cX8_isEvent 2 = .ok (.aload_n 0, 1) := by decide +kernel
theorem dX8_isEvent_3 : decode cX8_isEvent 3 = .ok (.getfield 217, 3) := by decide +kernel
theorem dX8_isEvent_6 : decode cX8_isEvent 6 = .ok (.iconst 1, 1) := by decide +kernel
theorem dX8_isEvent_7 : decode cX8_isEvent 7 = .ok (.isub, 1) := by decide +kernel
theorem dX8_isEvent_8 : decode cX8_isEvent 8 = .ok (.invokestatic 105, 3) := by decide +kernel
theorem dX8_isEvent_11 : decode cX8_isEvent 11 = .ok (.ireturn, 1) := by decide +kernel
theorem dX8_eventAt_0 : decode cX8_eventAt 0 = .ok (.aload_n 0, 1) := by decide +kernel
theorem dX8_eventAt_1 : decode cX8_eventAt 1 = .ok (.getfield 41, 3) := by decide +kernel
theorem dX8_eventAt_4 : decode cX8_eventAt 4 = .ok (.iconst 4, 1) := by decide +kernel
theorem dX8_eventAt_5 : decode cX8_eventAt 5 = .ok (.iload_n 1, 1) := by decide +kernel
theorem dX8_eventAt_6 : decode cX8_eventAt 6 = .ok (.imul, 1) := by decide +kernel
theorem dX8_eventAt_7 : decode cX8_eventAt 7 = .ok (.iload_n 2, 1) := by decide +kernel
theorem dX8_eventAt_8 : decode cX8_eventAt 8 = .ok (.iadd, 1) := by decide +kernel
theorem dX8_eventAt_9 : decode cX8_eventAt 9 = .ok (.iaload, 1) := by decide +kernel
theorem dX8_eventAt_10 : decode cX8_eventAt 10 = .ok (.ireturn, 1) := by decide +kernel
theorem dX8_told_0 : decode cX8_told 0 = .ok (.aload_n 0, 1) := by decide +kernel
theorem dX8_told_1 : decode cX8_told 1 = .ok (.iload_n 1, 1) := by decide +kernel
theorem dX8_told_2 : decode cX8_told 2 = .ok (.invokevirtual 231, 3) := by decide +kernel
theorem dX8_told_5 : decode cX8_told 5 = .ok (.ifCond .eq 26, 3) := by decide +kernel
theorem dX8_told_8 : decode cX8_told 8 = .ok (.iload_n 2, 1) := by decide +kernel
theorem dX8_told_9 : decode cX8_told 9 = .ok (.iconst 0, 1) := by decide +kernel
theorem dX8_told_10 : decode cX8_told 10 = .ok (.iconst 3, 1) := by decide +kernel
theorem dX8_told_11 : decode cX8_told 11 = .ok (.invokestatic 105, 3) := by decide +kernel
theorem dX8_told_14 : decode cX8_told 14 = .ok (.ifCond .eq 17, 3) := by decide +kernel
theorem dX8_told_17 : decode cX8_told 17 = .ok (.aload_n 0, 1) := by decide +kernel
theorem dX8_told_18 : decode cX8_told 18 = .ok (.aload_n 0, 1) := by decide +kernel
theorem dX8_told_19 : decode cX8_told 19 = .ok (.iload_n 1, 1) := by decide +kernel
theorem dX8_told_20 : decode cX8_told 20 = .ok (.iload_n 2, 1) := by decide +kernel
theorem dX8_told_21 : decode cX8_told 21 = .ok (.invokevirtual 234, 3) := by decide +kernel
theorem dX8_told_24 : decode cX8_told 24 = .ok (.iconst 1, 1) := by decide +kernel
theorem dX8_told_25 : decode cX8_told 25 = .ok (.invokevirtual 130, 3) := by decide +kernel
theorem dX8_told_28 : decode cX8_told 28 = .ok (.goto 4, 3) := by decide +kernel
theorem dX8_told_31 : decode cX8_told 31 = .ok (.iconst (-1), 1) := by decide +kernel
theorem dX8_told_32 : decode cX8_told 32 = .ok (.ireturn, 1) := by decide +kernel
theorem dX8_isOf_0 : decode cX8_isOf 0 = .ok (.aload_n 0, 1) := by decide +kernel
theorem dX8_isOf_1 : decode cX8_isOf 1 = .ok (.iload_n 1, 1) := by decide +kernel
theorem dX8_isOf_2 : decode cX8_isOf 2 = .ok (.iconst 0, 1) := by decide +kernel
theorem dX8_isOf_3 : decode cX8_isOf 3 = .ok (.invokevirtual 234, 3) := by decide +kernel
theorem dX8_isOf_6 : decode cX8_isOf 6 = .ok (.iload_n 2, 1) := by decide +kernel
theorem dX8_isOf_7 : decode cX8_isOf 7 = .ok (.if_icmp .eq 18, 3) := by decide +kernel
theorem dX8_isOf_10 : decode cX8_isOf 10 = .ok (.iload_n 2, 1) := by decide +kernel
theorem dX8_isOf_11 : decode cX8_isOf 11 = .ok (.iconst 2, 1) := by decide +kernel
theorem dX8_isOf_12 : decode cX8_isOf 12 = .ok (.if_icmp .ne 17, 3) := by decide +kernel
theorem dX8_isOf_15 : decode cX8_isOf 15 = .ok (.aload_n 0, 1) := by decide +kernel
theorem dX8_isOf_16 : decode cX8_isOf 16 = .ok (.iload_n 1, 1) := by decide +kernel
theorem dX8_isOf_17 : decode cX8_isOf 17 = .ok (.iconst 0, 1) := by decide +kernel
theorem dX8_isOf_18 : decode cX8_isOf 18 = .ok (.invokevirtual 234, 3) := by decide +kernel
theorem dX8_isOf_21 : decode cX8_isOf 21 = .ok (.iconst 3, 1) := by decide +kernel
theorem dX8_isOf_22 : decode cX8_isOf 22 = .ok (.if_icmp .ne 7, 3) := by decide +kernel
theorem dX8_isOf_25 : decode cX8_isOf 25 = .ok (.iconst 1, 1) := by decide +kernel
theorem dX8_isOf_26 : decode cX8_isOf 26 = .ok (.goto 4, 3) := by decide +kernel
theorem dX8_isOf_29 : decode cX8_isOf 29 = .ok (.iconst 0, 1) := by decide +kernel
theorem dX8_isOf_30 : decode cX8_isOf 30 = .ok (.ireturn, 1) := by decide +kernel
theorem dX8_mark_0 : decode cX8_mark 0 = .ok (.aload_n 0, 1) := by decide +kernel
theorem dX8_mark_1 : decode cX8_mark 1 = .ok (.iload_n 1, 1) := by decide +kernel
theorem dX8_mark_2 : decode cX8_mark 2 = .ok (.invokevirtual 231, 3) := by decide +kernel
theorem dX8_mark_5 : decode cX8_mark 5 = .ok (.ifCond .eq 12, 3) := by decide +kernel
theorem dX8_mark_8 : decode cX8_mark 8 = .ok (.iload_n 2, 1) := by decide +kernel
theorem dX8_mark_9 : decode cX8_mark 9 = .ok (.iconst 1, 1) := by decide +kernel
theorem dX8_mark_10 : decode cX8_mark 10 = .ok (.iconst 5, 1) := by decide +kernel
theorem dX8_mark_11 : decode cX8_mark 11 = .ok (.invokestatic 105, 3) := by decide +kernel
theorem dX8_mark_14 : decode cX8_mark 14 = .ok (.ifCond .ne 5, 3) := by decide +kernel
theorem dX8_mark_17 : decode cX8_mark 17 = .ok (.iconst (-1), 1) := by decide +kernel
theorem dX8_mark_18 : decode cX8_mark 18 = .ok (.ireturn, 1) := by decide +kernel
theorem dX8_mark_19 : decode cX8_mark 19 = .ok (.aload_n 0, 1) := by decide +kernel
theorem dX8_mark_20 : decode cX8_mark 20 = .ok (.iload_n 1, 1) := by decide +kernel
theorem dX8_mark_21 : decode cX8_mark 21 = .ok (.iload_n 2, 1) := by decide +kernel
theorem dX8_mark_22 : decode cX8_mark 22 = .ok (.invokevirtual 237, 3) := by decide +kernel
theorem dX8_mark_25 : decode cX8_mark 25 = .ok (.ifCond .ne 9, 3) := by decide +kernel
theorem dX8_mark_28 : decode cX8_mark 28 = .ok (.aload_n 0, 1) := by decide +kernel
theorem dX8_mark_29 : decode cX8_mark 29 = .ok (.iconst 3, 1) := by decide +kernel
theorem dX8_mark_30 : decode cX8_mark 30 = .ok (.invokevirtual 122, 3) := by decide +kernel
theorem dX8_mark_33 : decode cX8_mark 33 = .ok (.ireturn, 1) := by decide +kernel
theorem dX8_mark_34 : decode cX8_mark 34 = .ok (.iload_n 2, 1) := by decide +kernel
theorem dX8_mark_35 : decode cX8_mark 35 = .ok (.iconst 3, 1) := by decide +kernel
theorem dX8_mark_36 : decode cX8_mark 36 = .ok (.if_icmp .ne 12, 3) := by decide +kernel
theorem dX8_mark_39 : decode cX8_mark 39 = .ok (.aload_n 0, 1) := by decide +kernel
theorem dX8_mark_40 : decode cX8_mark 40 = .ok (.iload_n 1, 1) := by decide +kernel
theorem dX8_mark_41 : decode cX8_mark 41 = .ok (.iconst 2, 1) := by decide +kernel
theorem dX8_mark_42 : decode cX8_mark 42 = .ok (.invokevirtual 234, 3) := by decide +kernel
theorem dX8_mark_45 : decode cX8_mark 45 = .ok (.goto 32, 3) := by decide +kernel
theorem dX8_mark_48 : decode cX8_mark 48 = .ok (.iload_n 2, 1) := by decide +kernel
theorem dX8_mark_49 : decode cX8_mark 49 = .ok (.iconst 5, 1) := by decide +kernel
theorem dX8_mark_50 : decode cX8_mark 50 = .ok (.if_icmp .ne 21, 3) := by decide +kernel
theorem dX8_mark_53 : decode cX8_mark 53 = .ok (.aload_n 0, 1) := by decide +kernel
theorem dX8_mark_54 : decode cX8_mark 54 = .ok (.iload_n 1, 1) := by decide +kernel
theorem dX8_mark_55 : decode cX8_mark 55 = .ok (.iconst 2, 1) := by decide +kernel
theorem dX8_mark_56 : decode cX8_mark 56 = .ok (.invokevirtual 234, 3) := by decide +kernel
theorem dX8_mark_59 : decode cX8_mark 59 = .ok (.aload_n 0, 1) := by decide +kernel
theorem dX8_mark_60 : decode cX8_mark 60 = .ok (.iload_n 1, 1) := by decide +kernel
theorem dX8_mark_61 : decode cX8_mark 61 = .ok (.iconst 3, 1) := by decide +kernel
theorem dX8_mark_62 : decode cX8_mark 62 = .ok (.invokevirtual 234, 3) := by decide +kernel
theorem dX8_mark_65 : decode cX8_mark 65 = .ok (.isub, 1) := by decide +kernel
theorem dX8_mark_66 : decode cX8_mark 66 = .ok (.iconst 1, 1) := by decide +kernel
theorem dX8_mark_67 : decode cX8_mark 67 = .ok (.iadd, 1) := by decide +kernel
theorem dX8_mark_68 : decode cX8_mark 68 = .ok (.goto 9, 3) := by decide +kernel
theorem dX8_mark_71 : decode cX8_mark 71 = .ok (.aload_n 0, 1) := by decide +kernel
theorem dX8_mark_72 : decode cX8_mark 72 = .ok (.iload_n 1, 1) := by decide +kernel
theorem dX8_mark_73 : decode cX8_mark 73 = .ok (.iconst 1, 1) := by decide +kernel
theorem dX8_mark_74 : decode cX8_mark 74 = .ok (.invokevirtual 234, 3) := by decide +kernel
theorem dX8_mark_77 : decode cX8_mark 77 = .ok (.ireturn, 1) := by decide +kernel
theorem dX8_door_0 : decode cX8_door 0 = .ok (.aload_n 0, 1) := by decide +kernel
theorem dX8_door_1 : decode cX8_door 1 = .ok (.iload_n 1, 1) := by decide +kernel
theorem dX8_door_2 : decode cX8_door 2 = .ok (.invokevirtual 192, 3) := by decide +kernel
theorem dX8_door_5 : decode cX8_door 5 = .ok (.ifCond .eq 30, 3) := by decide +kernel
theorem dX8_door_8 : decode cX8_door 8 = .ok (.iload_n 2, 1) := by decide +kernel
theorem dX8_door_9 : decode cX8_door 9 = .ok (.iconst 0, 1) := by decide +kernel
theorem dX8_door_10 : decode cX8_door 10 = .ok (.iconst 2, 1) := by decide +kernel
theorem dX8_door_11 : decode cX8_door 11 = .ok (.invokestatic 105, 3) := by decide +kernel
theorem dX8_door_14 : decode cX8_door 14 = .ok (.ifCond .eq 21, 3) := by decide +kernel
theorem dX8_door_17 : decode cX8_door 17 = .ok (.aload_n 0, 1) := by decide +kernel
theorem dX8_door_18 : decode cX8_door 18 = .ok (.aload_n 0, 1) := by decide +kernel
theorem dX8_door_19 : decode cX8_door 19 = .ok (.getfield 29, 3) := by decide +kernel
theorem dX8_door_22 : decode cX8_door 22 = .ok (.iconst 3, 1) := by decide +kernel
theorem dX8_door_23 : decode cX8_door 23 = .ok (.iload_n 1, 1) := by decide +kernel
theorem dX8_door_24 : decode cX8_door 24 = .ok (.imul, 1) := by decide +kernel
theorem dX8_door_25 : decode cX8_door 25 = .ok (.iload_n 2, 1) := by decide +kernel
theorem dX8_door_26 : decode cX8_door 26 = .ok (.iadd, 1) := by decide +kernel
theorem dX8_door_27 : decode cX8_door 27 = .ok (.iaload, 1) := by decide +kernel
theorem dX8_door_28 : decode cX8_door 28 = .ok (.iconst 1, 1) := by decide +kernel
theorem dX8_door_29 : decode cX8_door 29 = .ok (.invokevirtual 130, 3) := by decide +kernel
theorem dX8_door_32 : decode cX8_door 32 = .ok (.goto 4, 3) := by decide +kernel
theorem dX8_door_35 : decode cX8_door 35 = .ok (.iconst (-1), 1) := by decide +kernel
theorem dX8_door_36 : decode cX8_door 36 = .ok (.ireturn, 1) := by decide +kernel
theorem dX8_walker_0 : decode cX8_walker 0 = .ok (.aload_n 0, 1) := by decide +kernel
theorem dX8_walker_1 : decode cX8_walker 1 = .ok (.iload_n 1, 1) := by decide +kernel
theorem dX8_walker_2 : decode cX8_walker 2 = .ok (.invokevirtual 224, 3) := by decide +kernel
theorem dX8_walker_5 : decode cX8_walker 5 = .ok (.ifCond .eq 30, 3) := by decide +kernel
theorem dX8_walker_8 : decode cX8_walker 8 = .ok (.iload_n 2, 1) := by decide +kernel
theorem dX8_walker_9 : decode cX8_walker 9 = .ok (.iconst 0, 1) := by decide +kernel
theorem dX8_walker_10 : decode cX8_walker 10 = .ok (.iconst 1, 1) := by decide +kernel
theorem dX8_walker_11 : decode cX8_walker 11 = .ok (.invokestatic 105, 3) := by decide +kernel
theorem dX8_walker_14 : decode cX8_walker 14 = .ok (.ifCond .eq 21, 3) := by decide +kernel
theorem dX8_walker_17 : decode cX8_walker 17 = .ok (.aload_n 0, 1) := by decide +kernel
theorem dX8_walker_18 : decode cX8_walker 18 = .ok (.aload_n 0, 1) := by decide +kernel
theorem dX8_walker_19 : decode cX8_walker 19 = .ok (.getfield 32, 3) := by decide +kernel
theorem dX8_walker_22 : decode cX8_walker 22 = .ok (.iconst 2, 1) := by decide +kernel
theorem dX8_walker_23 : decode cX8_walker 23 = .ok (.iload_n 1, 1) := by decide +kernel
theorem dX8_walker_24 : decode cX8_walker 24 = .ok (.imul, 1) := by decide +kernel
theorem dX8_walker_25 : decode cX8_walker 25 = .ok (.iload_n 2, 1) := by decide +kernel
theorem dX8_walker_26 : decode cX8_walker 26 = .ok (.iadd, 1) := by decide +kernel
theorem dX8_walker_27 : decode cX8_walker 27 = .ok (.iaload, 1) := by decide +kernel
theorem dX8_walker_28 : decode cX8_walker 28 = .ok (.iconst 1, 1) := by decide +kernel
theorem dX8_walker_29 : decode cX8_walker 29 = .ok (.invokevirtual 130, 3) := by decide +kernel
theorem dX8_walker_32 : decode cX8_walker 32 = .ok (.goto 4, 3) := by decide +kernel
theorem dX8_walker_35 : decode cX8_walker 35 = .ok (.iconst (-1), 1) := by decide +kernel
theorem dX8_walker_36 : decode cX8_walker 36 = .ok (.ireturn, 1) := by decide +kernel
theorem dX8_layNight_0 : decode cX8_layNight 0 = .ok (.aload_n 0, 1) := by decide +kernel
theorem dX8_layNight_1 : decode cX8_layNight 1 = .ok (.iload_n 2, 1) := by decide +kernel
theorem dX8_layNight_2 : decode cX8_layNight 2 = .ok (.putfield 240, 3) := by decide +kernel
theorem dX8_layNight_5 : decode cX8_layNight 5 = .ok (.aload_n 0, 1) := by decide +kernel
theorem dX8_layNight_6 : decode cX8_layNight 6 = .ok (.bipush (-9), 2) := by decide +kernel
theorem dX8_layNight_8 : decode cX8_layNight 8 = .ok (.putfield 243, 3) := by decide +kernel
theorem dX8_layNight_11 : decode cX8_layNight 11 = .ok (.aload_n 0, 1) := by decide +kernel
theorem dX8_layNight_12 : decode cX8_layNight 12 = .ok (.iconst 0, 1) := by decide +kernel
theorem dX8_layNight_13 : decode cX8_layNight 13 = .ok (.putfield 246, 3) := by decide +kernel
theorem dX8_layNight_16 : decode cX8_layNight 16 = .ok (.aload_n 0, 1) := by decide +kernel
theorem dX8_layNight_17 : decode cX8_layNight 17 = .ok (.iconst 0, 1) := by decide +kernel
theorem dX8_layNight_18 : decode cX8_layNight 18 = .ok (.putfield 249, 3) := by decide +kernel
theorem dX8_layNight_21 : decode cX8_layNight 21 = .ok (.iconst 0, 1) := by decide +kernel
theorem dX8_layNight_22 : decode cX8_layNight 22 = .ok (.istore_n 3, 1) := by decide +kernel
theorem dX8_layNight_23 : decode cX8_layNight 23 = .ok (.iload_n 3, 1) := by decide +kernel
theorem dX8_layNight_24 : decode cX8_layNight 24 = .ok (.aload_n 0, 1) := by decide +kernel
theorem dX8_layNight_25 : decode cX8_layNight 25 = .ok (.getfield 183, 3) := by decide +kernel
theorem dX8_layNight_28 : decode cX8_layNight 28 = .ok (.if_icmp .ge 33, 3) := by decide +kernel
theorem dX8_layNight_31 : decode cX8_layNight 31 = .ok (.aload_n 0, 1) := by decide +kernel
theorem dX8_layNight_32 : decode cX8_layNight 32 = .ok (.dup, 1) := by decide +kernel
theorem dX8_layNight_33 : decode cX8_layNight 33 = .ok (.getfield 249, 3) := by decide +kernel
theorem dX8_layNight_36 : decode cX8_layNight 36 = .ok (.aload_n 0, 1) := by decide +kernel
theorem dX8_layNight_37 : decode cX8_layNight 37 = .ok (.iload_n 3, 1) := by decide +kernel
theorem dX8_layNight_38 : decode cX8_layNight 38 = .ok (.invokevirtual 195, 3) := by decide +kernel
theorem dX8_layNight_41 : decode cX8_layNight 41 = .ok (.ifCond .eq 9, 3) := by decide +kernel
theorem dX8_layNight_44 : decode cX8_layNight 44 = .ok (.iconst 1, 1) := by decide +kernel
theorem dX8_layNight_45 : decode cX8_layNight 45 = .ok (.iload_n 3, 1) := by decide +kernel
theorem dX8_layNight_46 : decode cX8_layNight 46 = .ok (.ishl, 1) := by decide +kernel
theorem dX8_layNight_47 : decode cX8_layNight 47 = .ok (.goto 4, 3) := by decide +kernel
theorem dX8_layNight_50 : decode cX8_layNight 50 = .ok (.iconst 0, 1) := by decide +kernel
theorem dX8_layNight_51 : decode cX8_layNight 51 = .ok (.ior, 1) := by decide +kernel
theorem dX8_layNight_52 : decode cX8_layNight 52 = .ok (.putfield 249, 3) := by decide +kernel
theorem dX8_layNight_55 : decode cX8_layNight 55 = .ok (.iinc 3 1, 3) := by decide +kernel
theorem dX8_layNight_58 : decode cX8_layNight 58 = .ok (.goto (-35), 3) := by decide +kernel
theorem dX8_layNight_61 : decode cX8_layNight 61 = .ok (.iconst 0, 1) := by decide +kernel
theorem dX8_layNight_62 : decode cX8_layNight 62 = .ok (.istore_n 3, 1) := by decide +kernel
theorem dX8_layNight_63 : decode cX8_layNight 63 = .ok (.iload_n 3, 1) := by decide +kernel
theorem dX8_layNight_64 : decode cX8_layNight 64 = .ok (.bipush 30, 2) := by decide +kernel
theorem dX8_layNight_66 : decode cX8_layNight 66 = .ok (.if_icmp .gt 64, 3) := by decide +kernel
theorem dX8_layNight_69 : decode cX8_layNight 69 = .ok (.aload_n 0, 1) := by decide +kernel
theorem dX8_layNight_70 : decode cX8_layNight 70 = .ok (.getfield 47, 3) := by decide +kernel
theorem dX8_layNight_73 : decode cX8_layNight 73 = .ok (.iload_n 3, 1) := by decide +kernel
theorem dX8_layNight_74 : decode cX8_layNight 74 = .ok (.iconst 0, 1) := by decide +kernel
theorem dX8_layNight_75 : decode cX8_layNight 75 = .ok (.iastore, 1) := by decide +kernel
theorem dX8_layNight_76 : decode cX8_layNight 76 = .ok (.aload_n 0, 1) := by decide +kernel
theorem dX8_layNight_77 : decode cX8_layNight 77 = .ok (.getfield 50, 3) := by decide +kernel
theorem dX8_layNight_80 : decode cX8_layNight 80 = .ok (.iload_n 3, 1) := by decide +kernel
theorem dX8_layNight_81 : decode cX8_layNight 81 = .ok (.iconst 0, 1) := by decide +kernel
theorem dX8_layNight_82 : decode cX8_layNight 82 = .ok (.iastore, 1) := by decide +kernel
theorem dX8_layNight_83 : decode cX8_layNight 83 = .ok (.aload_n 0, 1) := by decide +kernel
theorem dX8_layNight_84 : decode cX8_layNight 84 = .ok (.getfield 53, 3) := by decide +kernel
theorem dX8_layNight_87 : decode cX8_layNight 87 = .ok (.iload_n 3, 1) := by decide +kernel
theorem dX8_layNight_88 : decode cX8_layNight 88 = .ok (.iconst 0, 1) := by decide +kernel
theorem dX8_layNight_89 : decode cX8_layNight 89 = .ok (.iastore, 1) := by decide +kernel
theorem dX8_layNight_90 : decode cX8_layNight 90 = .ok (.aload_n 0, 1) := by decide +kernel
theorem dX8_layNight_91 : decode cX8_layNight 91 = .ok (.getfield 56, 3) := by decide +kernel
theorem dX8_layNight_94 : decode cX8_layNight 94 = .ok (.iload_n 3, 1) := by decide +kernel
theorem dX8_layNight_95 : decode cX8_layNight 95 = .ok (.iconst 0, 1) := by decide +kernel
theorem dX8_layNight_96 : decode cX8_layNight 96 = .ok (.iastore, 1) := by decide +kernel
theorem dX8_layNight_97 : decode cX8_layNight 97 = .ok (.iconst 0, 1) := by decide +kernel
theorem dX8_layNight_98 : decode cX8_layNight 98 = .ok (.istore 4, 2) := by decide +kernel
theorem dX8_layNight_100 : decode cX8_layNight 100 = .ok (.iload 4, 2) := by decide +kernel
theorem dX8_layNight_102 : decode cX8_layNight 102 = .ok (.iconst 3, 1) := by decide +kernel
theorem dX8_layNight_103 : decode cX8_layNight 103 = .ok (.if_icmp .ge 21, 3) := by decide +kernel
theorem dX8_layNight_106 : decode cX8_layNight 106 = .ok (.aload_n 0, 1) := by decide +kernel
theorem dX8_layNight_107 : decode cX8_layNight 107 = .ok (.getfield 59, 3) := by decide +kernel
theorem dX8_layNight_110 : decode cX8_layNight 110 = .ok (.iconst 3, 1) := by decide +kernel
theorem dX8_layNight_111 : decode cX8_layNight 111 = .ok (.iload_n 3, 1) := by decide +kernel
theorem dX8_layNight_112 : decode cX8_layNight 112 = .ok (.imul, 1) := by decide +kernel
theorem dX8_layNight_113 : decode cX8_layNight 113 = .ok (.iload 4, 2) := by decide +kernel
theorem dX8_layNight_115 : decode cX8_layNight 115 = .ok (.iadd, 1) := by decide +kernel
theorem dX8_layNight_116 : decode cX8_layNight 116 = .ok (.iconst (-1), 1) := by decide +kernel
theorem dX8_layNight_117 : decode cX8_layNight 117 = .ok (.iastore, 1) := by decide +kernel
theorem dX8_layNight_118 : decode cX8_layNight 118 = .ok (.iinc 4 1, 3) := by decide +kernel
theorem dX8_layNight_121 : decode cX8_layNight 121 = .ok (.goto (-21), 3) := by decide +kernel
theorem dX8_layNight_124 : decode cX8_layNight 124 = .ok (.iinc 3 1, 3) := by decide +kernel
theorem dX8_layNight_127 : decode cX8_layNight 127 = .ok (.goto (-64), 3) := by decide +kernel
theorem dX8_layNight_130 : decode cX8_layNight 130 = .ok (.iconst 1, 1) := by decide +kernel
theorem dX8_layNight_131 : decode cX8_layNight 131 = .ok (.istore_n 3, 1) := by decide +kernel
theorem dX8_layNight_132 : decode cX8_layNight 132 = .ok (.iconst 0, 1) := by decide +kernel
theorem dX8_layNight_133 : decode cX8_layNight 133 = .ok (.istore 4, 2) := by decide +kernel
theorem dX8_layNight_135 : decode cX8_layNight 135 = .ok (.iload 4, 2) := by decide +kernel
theorem dX8_layNight_137 : decode cX8_layNight 137 = .ok (.aload_n 0, 1) := by decide +kernel
theorem dX8_layNight_138 : decode cX8_layNight 138 = .ok (.getfield 217, 3) := by decide +kernel
theorem dX8_layNight_141 : decode cX8_layNight 141 = .ok (.if_icmp .ge 37, 3) := by decide +kernel
theorem dX8_layNight_144 : decode cX8_layNight 144 = .ok (.iload_n 1, 1) := by decide +kernel
theorem dX8_layNight_145 : decode cX8_layNight 145 = .ok (.iload 4, 2) := by decide +kernel
theorem dX8_layNight_147 : decode cX8_layNight 147 = .ok (.invokestatic 252, 3) := by decide +kernel
theorem dX8_layNight_150 : decode cX8_layNight 150 = .ok (.ifCond .ne 12, 3) := by decide +kernel
theorem dX8_layNight_153 : decode cX8_layNight 153 = .ok (.aload_n 0, 1) := by decide +kernel
theorem dX8_layNight_154 : decode cX8_layNight 154 = .ok (.iload 4, 2) := by decide +kernel
theorem dX8_layNight_156 : decode cX8_layNight 156 = .ok (.invokevirtual 255, 3) := by decide +kernel
theorem dX8_layNight_159 : decode cX8_layNight 159 = .ok (.ifCond .eq 11, 3) := by decide +kernel
theorem dX8_layNight_162 : decode cX8_layNight 162 = .ok (.iload_n 3, 1) := by decide +kernel
theorem dX8_layNight_163 : decode cX8_layNight 163 = .ok (.ifCond .eq 7, 3) := by decide +kernel
theorem dX8_layNight_166 : decode cX8_layNight 166 = .ok (.iconst 1, 1) := by decide +kernel
theorem dX8_layNight_167 : decode cX8_layNight 167 = .ok (.goto 4, 3) := by decide +kernel
theorem dX8_layNight_170 : decode cX8_layNight 170 = .ok (.iconst 0, 1) := by decide +kernel
theorem dX8_layNight_171 : decode cX8_layNight 171 = .ok (.istore_n 3, 1) := by decide +kernel
theorem dX8_layNight_172 : decode cX8_layNight 172 = .ok (.iinc 4 1, 3) := by decide +kernel
theorem dX8_layNight_175 : decode cX8_layNight 175 = .ok (.goto (-40), 3) := by decide +kernel
theorem dX8_layNight_178 : decode cX8_layNight 178 = .ok (.iload_n 3, 1) := by decide +kernel
theorem dX8_layNight_179 : decode cX8_layNight 179 = .ok (.ireturn, 1) := by decide +kernel
theorem dX8_note_0 : decode cX8_note 0 = .ok (.aload_n 0, 1) := by decide +kernel
theorem dX8_note_1 : decode cX8_note 1 = .ok (.iload_n 1, 1) := by decide +kernel
theorem dX8_note_2 : decode cX8_note 2 = .ok (.iconst 1, 1) := by decide +kernel
theorem dX8_note_3 : decode cX8_note 3 = .ok (.invokevirtual 234, 3) := by decide +kernel
theorem dX8_note_6 : decode cX8_note 6 = .ok (.istore_n 2, 1) := by decide +kernel
theorem dX8_note_7 : decode cX8_note 7 = .ok (.aload_n 0, 1) := by decide +kernel
theorem dX8_note_8 : decode cX8_note 8 = .ok (.iload_n 1, 1) := by decide +kernel
theorem dX8_note_9 : decode cX8_note 9 = .ok (.iconst 2, 1) := by decide +kernel
theorem dX8_note_10 : decode cX8_note 10 = .ok (.invokevirtual 234, 3) := by decide +kernel
theorem dX8_note_13 : decode cX8_note 13 = .ok (.istore_n 3, 1) := by decide +kernel
theorem dX8_note_14 : decode cX8_note 14 = .ok (.aload_n 0, 1) := by decide +kernel
theorem dX8_note_15 : decode cX8_note 15 = .ok (.iload_n 1, 1) := by decide +kernel
theorem dX8_note_16 : decode cX8_note 16 = .ok (.iconst 3, 1) := by decide +kernel
theorem dX8_note_17 : decode cX8_note 17 = .ok (.invokevirtual 234, 3) := by decide +kernel
theorem dX8_note_20 : decode cX8_note 20 = .ok (.istore 4, 2) := by decide +kernel
theorem dX8_note_22 : decode cX8_note 22 = .ok (.aload_n 0, 1) := by decide +kernel
theorem dX8_note_23 : decode cX8_note 23 = .ok (.iload_n 1, 1) := by decide +kernel
theorem dX8_note_24 : decode cX8_note 24 = .ok (.iconst 0, 1) := by decide +kernel
theorem dX8_note_25 : decode cX8_note 25 = .ok (.invokevirtual 234, 3) := by decide +kernel
theorem dX8_note_28 : decode cX8_note 28 = .ok (.tableswitch 116 1 5 #[36, 52, 116, 68, 84], 36) := by decide +kernel
theorem dX8_note_64 : decode cX8_note 64 = .ok (.aload_n 0, 1) := by decide +kernel
theorem dX8_note_65 : decode cX8_note 65 = .ok (.getfield 47, 3) := by decide +kernel
theorem dX8_note_68 : decode cX8_note 68 = .ok (.iload 4, 2) := by decide +kernel
theorem dX8_note_70 : decode cX8_note 70 = .ok (.dup2, 1) := by decide +kernel
theorem dX8_note_71 : decode cX8_note 71 = .ok (.iaload, 1) := by decide +kernel
theorem dX8_note_72 : decode cX8_note 72 = .ok (.iconst 1, 1) := by decide +kernel
theorem dX8_note_73 : decode cX8_note 73 = .ok (.iload_n 2, 1) := by decide +kernel
theorem dX8_note_74 : decode cX8_note 74 = .ok (.ishl, 1) := by decide +kernel
theorem dX8_note_75 : decode cX8_note 75 = .ok (.ior, 1) := by decide +kernel
theorem dX8_note_76 : decode cX8_note 76 = .ok (.iastore, 1) := by decide +kernel
theorem dX8_note_77 : decode cX8_note 77 = .ok (.goto 124, 3) := by decide +kernel
theorem dX8_note_80 : decode cX8_note 80 = .ok (.aload_n 0, 1) := by decide +kernel
theorem dX8_note_81 : decode cX8_note 81 = .ok (.getfield 53, 3) := by decide +kernel
theorem dX8_note_84 : decode cX8_note 84 = .ok (.iload 4, 2) := by decide +kernel
theorem dX8_note_86 : decode cX8_note 86 = .ok (.dup2, 1) := by decide +kernel
theorem dX8_note_87 : decode cX8_note 87 = .ok (.iaload, 1) := by decide +kernel
theorem dX8_note_88 : decode cX8_note 88 = .ok (.iconst 1, 1) := by decide +kernel
theorem dX8_note_89 : decode cX8_note 89 = .ok (.iload_n 2, 1) := by decide +kernel
theorem dX8_note_90 : decode cX8_note 90 = .ok (.ishl, 1) := by decide +kernel
theorem dX8_note_91 : decode cX8_note 91 = .ok (.ior, 1) := by decide +kernel
theorem dX8_note_92 : decode cX8_note 92 = .ok (.iastore, 1) := by decide +kernel
theorem dX8_note_93 : decode cX8_note 93 = .ok (.goto 108, 3) := by decide +kernel
theorem dX8_note_96 : decode cX8_note 96 = .ok (.aload_n 0, 1) := by decide +kernel
theorem dX8_note_97 : decode cX8_note 97 = .ok (.getfield 56, 3) := by decide +kernel
theorem dX8_note_100 : decode cX8_note 100 = .ok (.iload 4, 2) := by decide +kernel
theorem dX8_note_102 : decode cX8_note 102 = .ok (.dup2, 1) := by decide +kernel
theorem dX8_note_103 : decode cX8_note 103 = .ok (.iaload, 1) := by decide +kernel
theorem dX8_note_104 : decode cX8_note 104 = .ok (.iconst 1, 1) := by decide +kernel
theorem dX8_note_105 : decode cX8_note 105 = .ok (.iload_n 2, 1) := by decide +kernel
theorem dX8_note_106 : decode cX8_note 106 = .ok (.ishl, 1) := by decide +kernel
theorem dX8_note_107 : decode cX8_note 107 = .ok (.ior, 1) := by decide +kernel
theorem dX8_note_108 : decode cX8_note 108 = .ok (.iastore, 1) := by decide +kernel
theorem dX8_note_109 : decode cX8_note 109 = .ok (.goto 92, 3) := by decide +kernel
theorem dX8_note_112 : decode cX8_note 112 = .ok (.iload 4, 2) := by decide +kernel
theorem dX8_note_114 : decode cX8_note 114 = .ok (.istore 5, 2) := by decide +kernel
theorem dX8_note_116 : decode cX8_note 116 = .ok (.iload 5, 2) := by decide +kernel
theorem dX8_note_118 : decode cX8_note 118 = .ok (.iload_n 3, 1) := by decide +kernel
theorem dX8_note_119 : decode cX8_note 119 = .ok (.if_icmp .gt 22, 3) := by decide +kernel
theorem dX8_note_122 : decode cX8_note 122 = .ok (.aload_n 0, 1) := by decide +kernel
theorem dX8_note_123 : decode cX8_note 123 = .ok (.getfield 50, 3) := by decide +kernel
theorem dX8_note_126 : decode cX8_note 126 = .ok (.iload 5, 2) := by decide +kernel
theorem dX8_note_128 : decode cX8_note 128 = .ok (.dup2, 1) := by decide +kernel
theorem dX8_note_129 : decode cX8_note 129 = .ok (.iaload, 1) := by decide +kernel
theorem dX8_note_130 : decode cX8_note 130 = .ok (.iconst 1, 1) := by decide +kernel
theorem dX8_note_131 : decode cX8_note 131 = .ok (.iload_n 2, 1) := by decide +kernel
theorem dX8_note_132 : decode cX8_note 132 = .ok (.ishl, 1) := by decide +kernel
theorem dX8_note_133 : decode cX8_note 133 = .ok (.ior, 1) := by decide +kernel
theorem dX8_note_134 : decode cX8_note 134 = .ok (.iastore, 1) := by decide +kernel
theorem dX8_note_135 : decode cX8_note 135 = .ok (.iinc 5 1, 3) := by decide +kernel
theorem dX8_note_138 : decode cX8_note 138 = .ok (.goto (-22), 3) := by decide +kernel
theorem dX8_note_141 : decode cX8_note 141 = .ok (.goto 60, 3) := by decide +kernel
theorem dX8_note_144 : decode cX8_note 144 = .ok (.iconst 3, 1) := by decide +kernel
theorem dX8_note_145 : decode cX8_note 145 = .ok (.iload 4, 2) := by decide +kernel
theorem dX8_note_147 : decode cX8_note 147 = .ok (.imul, 1) := by decide +kernel
theorem dX8_note_148 : decode cX8_note 148 = .ok (.iload_n 3, 1) := by decide +kernel
theorem dX8_note_149 : decode cX8_note 149 = .ok (.iadd, 1) := by decide +kernel
theorem dX8_note_150 : decode cX8_note 150 = .ok (.istore 5, 2) := by decide +kernel
theorem dX8_note_152 : decode cX8_note 152 = .ok (.aload_n 0, 1) := by decide +kernel
theorem dX8_note_153 : decode cX8_note 153 = .ok (.getfield 59, 3) := by decide +kernel
theorem dX8_note_156 : decode cX8_note 156 = .ok (.iload 5, 2) := by decide +kernel
theorem dX8_note_158 : decode cX8_note 158 = .ok (.aload_n 0, 1) := by decide +kernel
theorem dX8_note_159 : decode cX8_note 159 = .ok (.getfield 59, 3) := by decide +kernel
theorem dX8_note_162 : decode cX8_note 162 = .ok (.iload 5, 2) := by decide +kernel
theorem dX8_note_164 : decode cX8_note 164 = .ok (.iaload, 1) := by decide +kernel
theorem dX8_note_165 : decode cX8_note 165 = .ok (.iconst (-1), 1) := by decide +kernel
theorem dX8_note_166 : decode cX8_note 166 = .ok (.if_icmp .eq 14, 3) := by decide +kernel
theorem dX8_note_169 : decode cX8_note 169 = .ok (.aload_n 0, 1) := by decide +kernel
theorem dX8_note_170 : decode cX8_note 170 = .ok (.getfield 59, 3) := by decide +kernel
theorem dX8_note_173 : decode cX8_note 173 = .ok (.iload 5, 2) := by decide +kernel
theorem dX8_note_175 : decode cX8_note 175 = .ok (.iaload, 1) := by decide +kernel
theorem dX8_note_176 : decode cX8_note 176 = .ok (.iload_n 2, 1) := by decide +kernel
theorem dX8_note_177 : decode cX8_note 177 = .ok (.if_icmp .ne 7, 3) := by decide +kernel
theorem dX8_note_180 : decode cX8_note 180 = .ok (.iload_n 2, 1) := by decide +kernel
theorem dX8_note_181 : decode cX8_note 181 = .ok (.goto 5, 3) := by decide +kernel
theorem dX8_note_184 : decode cX8_note 184 = .ok (.bipush (-2), 2) := by decide +kernel
theorem dX8_note_186 : decode cX8_note 186 = .ok (.iastore, 1) := by decide +kernel
theorem dX8_note_187 : decode cX8_note 187 = .ok (.iload_n 3, 1) := by decide +kernel
theorem dX8_note_188 : decode cX8_note 188 = .ok (.aload_n 0, 1) := by decide +kernel
theorem dX8_note_189 : decode cX8_note 189 = .ok (.getfield 240, 3) := by decide +kernel
theorem dX8_note_192 : decode cX8_note 192 = .ok (.if_icmp .ge 7, 3) := by decide +kernel
theorem dX8_note_195 : decode cX8_note 195 = .ok (.iconst 1, 1) := by decide +kernel
theorem dX8_note_196 : decode cX8_note 196 = .ok (.goto 4, 3) := by decide +kernel
theorem dX8_note_199 : decode cX8_note 199 = .ok (.iconst 0, 1) := by decide +kernel
theorem dX8_note_200 : decode cX8_note 200 = .ok (.ireturn, 1) := by decide +kernel
theorem dX8_note_201 : decode cX8_note 201 = .ok (.iconst 1, 1) := by decide +kernel
theorem dX8_note_202 : decode cX8_note 202 = .ok (.ireturn, 1) := by decide +kernel
theorem dX8_states_0 : decode cX8_states 0 = .ok (.iconst 1, 1) := by decide +kernel
theorem dX8_states_1 : decode cX8_states 1 = .ok (.istore_n 1, 1) := by decide +kernel
theorem dX8_states_2 : decode cX8_states 2 = .ok (.iconst 0, 1) := by decide +kernel
theorem dX8_states_3 : decode cX8_states 3 = .ok (.istore_n 2, 1) := by decide +kernel
theorem dX8_states_4 : decode cX8_states 4 = .ok (.iload_n 2, 1) := by decide +kernel
theorem dX8_states_5 : decode cX8_states 5 = .ok (.aload_n 0, 1) := by decide +kernel
theorem dX8_states_6 : decode cX8_states 6 = .ok (.getfield 240, 3) := by decide +kernel
theorem dX8_states_9 : decode cX8_states 9 = .ok (.if_icmp .ge 14, 3) := by decide +kernel
theorem dX8_states_12 : decode cX8_states 12 = .ok (.iload_n 1, 1) := by decide +kernel
theorem dX8_states_13 : decode cX8_states 13 = .ok (.bipush 12, 2) := by decide +kernel
theorem dX8_states_15 : decode cX8_states 15 = .ok (.imul, 1) := by decide +kernel
theorem dX8_states_16 : decode cX8_states 16 = .ok (.istore_n 1, 1) := by decide +kernel
theorem dX8_states_17 : decode cX8_states 17 = .ok (.iinc 2 1, 3) := by decide +kernel
theorem dX8_states_20 : decode cX8_states 20 = .ok (.goto (-16), 3) := by decide +kernel
theorem dX8_states_23 : decode cX8_states 23 = .ok (.iload_n 1, 1) := by decide +kernel
theorem dX8_states_24 : decode cX8_states 24 = .ok (.ireturn, 1) := by decide +kernel
theorem dX8_placeOf_0 : decode cX8_placeOf 0 = .ok (.iload_n 1, 1) := by decide +kernel
theorem dX8_placeOf_1 : decode cX8_placeOf 1 = .ok (.ifCond .ne 10, 3) := by decide +kernel
theorem dX8_placeOf_4 : decode cX8_placeOf 4 = .ok (.iload_n 0, 1) := by decide +kernel
theorem dX8_placeOf_5 : decode cX8_placeOf 5 = .ok (.bipush 12, 2) := by decide +kernel
theorem dX8_placeOf_7 : decode cX8_placeOf 7 = .ok (.irem, 1) := by decide +kernel
theorem dX8_placeOf_8 : decode cX8_placeOf 8 = .ok (.goto 23, 3) := by decide +kernel
theorem dX8_placeOf_11 : decode cX8_placeOf 11 = .ok (.iload_n 1, 1) := by decide +kernel
theorem dX8_placeOf_12 : decode cX8_placeOf 12 = .ok (.iconst 1, 1) := by decide +kernel
theorem dX8_placeOf_13 : decode cX8_placeOf 13 = .ok (.if_icmp .ne 13, 3) := by decide +kernel
theorem dX8_placeOf_16 : decode cX8_placeOf 16 = .ok (.iload_n 0, 1) := by decide +kernel
theorem dX8_placeOf_17 : decode cX8_placeOf 17 = .ok (.bipush 12, 2) := by decide +kernel
theorem dX8_placeOf_19 : decode cX8_placeOf 19 = .ok (.idiv, 1) := by decide +kernel
theorem dX8_placeOf_20 : decode cX8_placeOf 20 = .ok (.bipush 12, 2) := by decide +kernel
theorem dX8_placeOf_22 : decode cX8_placeOf 22 = .ok (.irem, 1) := by decide +kernel
theorem dX8_placeOf_23 : decode cX8_placeOf 23 = .ok (.goto 8, 3) := by decide +kernel
theorem dX8_placeOf_26 : decode cX8_placeOf 26 = .ok (.iload_n 0, 1) := by decide +kernel
theorem dX8_placeOf_27 : decode cX8_placeOf 27 = .ok (.sipush 144, 3) := by decide +kernel
theorem dX8_placeOf_30 : decode cX8_placeOf 30 = .ok (.idiv, 1) := by decide +kernel
theorem dX8_placeOf_31 : decode cX8_placeOf 31 = .ok (.ireturn, 1) := by decide +kernel
theorem dX8_roomOf_0 : decode cX8_roomOf 0 = .ok (.iload_n 1, 1) := by decide +kernel
theorem dX8_roomOf_1 : decode cX8_roomOf 1 = .ok (.iload_n 2, 1) := by decide +kernel
theorem dX8_roomOf_2 : decode cX8_roomOf 2 = .ok (.invokestatic 258, 3) := by decide +kernel
theorem dX8_roomOf_5 : decode cX8_roomOf 5 = .ok (.iconst 2, 1) := by decide +kernel
theorem dX8_roomOf_6 : decode cX8_roomOf 6 = .ok (.idiv, 1) := by decide +kernel
theorem dX8_roomOf_7 : decode cX8_roomOf 7 = .ok (.ireturn, 1) := by decide +kernel
theorem dX8_roomsOf_0 : decode cX8_roomsOf 0 = .ok (.iconst 0, 1) := by decide +kernel
theorem dX8_roomsOf_1 : decode cX8_roomsOf 1 = .ok (.istore_n 2, 1) := by decide +kernel
theorem dX8_roomsOf_2 : decode cX8_roomsOf 2 = .ok (.iconst 0, 1) := by decide +kernel
theorem dX8_roomsOf_3 : decode cX8_roomsOf 3 = .ok (.istore_n 3, 1) := by decide +kernel
theorem dX8_roomsOf_4 : decode cX8_roomsOf 4 = .ok (.iload_n 3, 1) := by decide +kernel
theorem dX8_roomsOf_5 : decode cX8_roomsOf 5 = .ok (.aload_n 0, 1) := by decide +kernel
theorem dX8_roomsOf_6 : decode cX8_roomsOf 6 = .ok (.getfield 240, 3) := by decide +kernel
theorem dX8_roomsOf_9 : decode cX8_roomsOf 9 = .ok (.if_icmp .ge 20, 3) := by decide +kernel
theorem dX8_roomsOf_12 : decode cX8_roomsOf 12 = .ok (.iload_n 2, 1) := by decide +kernel
theorem dX8_roomsOf_13 : decode cX8_roomsOf 13 = .ok (.iconst 1, 1) := by decide +kernel
theorem dX8_roomsOf_14 : decode cX8_roomsOf 14 = .ok (.aload_n 0, 1) := by decide +kernel
theorem dX8_roomsOf_15 : decode cX8_roomsOf 15 = .ok (.iload_n 1, 1) := by decide +kernel
theorem dX8_roomsOf_16 : decode cX8_roomsOf 16 = .ok (.iload_n 3, 1) := by decide +kernel
theorem dX8_roomsOf_17 : decode cX8_roomsOf 17 = .ok (.invokevirtual 261, 3) := by decide +kernel
theorem dX8_roomsOf_20 : decode cX8_roomsOf 20 = .ok (.ishl, 1) := by decide +kernel
theorem dX8_roomsOf_21 : decode cX8_roomsOf 21 = .ok (.ior, 1) := by decide +kernel
theorem dX8_roomsOf_22 : decode cX8_roomsOf 22 = .ok (.istore_n 2, 1) := by decide +kernel
theorem dX8_roomsOf_23 : decode cX8_roomsOf 23 = .ok (.iinc 3 1, 3) := by decide +kernel
theorem dX8_roomsOf_26 : decode cX8_roomsOf 26 = .ok (.goto (-22), 3) := by decide +kernel
theorem dX8_roomsOf_29 : decode cX8_roomsOf 29 = .ok (.iload_n 2, 1) := by decide +kernel
theorem dX8_roomsOf_30 : decode cX8_roomsOf 30 = .ok (.ireturn, 1) := by decide +kernel
theorem dX8_canBe_0 : decode cX8_canBe 0 = .ok (.aload_n 0, 1) := by decide +kernel
theorem dX8_canBe_1 : decode cX8_canBe 1 = .ok (.iload_n 2, 1) := by decide +kernel
theorem dX8_canBe_2 : decode cX8_canBe 2 = .ok (.invokevirtual 264, 3) := by decide +kernel
theorem dX8_canBe_5 : decode cX8_canBe 5 = .ok (.istore_n 3, 1) := by decide +kernel
theorem dX8_canBe_6 : decode cX8_canBe 6 = .ok (.aload_n 0, 1) := by decide +kernel
theorem dX8_canBe_7 : decode cX8_canBe 7 = .ok (.getfield 53, 3) := by decide +kernel
theorem dX8_canBe_10 : decode cX8_canBe 10 = .ok (.iload_n 1, 1) := by decide +kernel
theorem dX8_canBe_11 : decode cX8_canBe 11 = .ok (.iaload, 1) := by decide +kernel
theorem dX8_canBe_12 : decode cX8_canBe 12 = .ok (.iload_n 3, 1) := by decide +kernel
theorem dX8_canBe_13 : decode cX8_canBe 13 = .ok (.iconst (-1), 1) := by decide +kernel
theorem dX8_canBe_14 : decode cX8_canBe 14 = .ok (.ixor, 1) := by decide +kernel
theorem dX8_canBe_15 : decode cX8_canBe 15 = .ok (.iand, 1) := by decide +kernel
theorem dX8_canBe_16 : decode cX8_canBe 16 = .ok (.ifCond .ne 18, 3) := by decide +kernel
theorem dX8_canBe_19 : decode cX8_canBe 19 = .ok (.aload_n 0, 1) := by decide +kernel
theorem dX8_canBe_20 : decode cX8_canBe 20 = .ok (.getfield 56, 3) := by decide +kernel
theorem dX8_canBe_23 : decode cX8_canBe 23 = .ok (.iload_n 1, 1) := by decide +kernel
theorem dX8_canBe_24 : decode cX8_canBe 24 = .ok (.iaload, 1) := by decide +kernel
theorem dX8_canBe_25 : decode cX8_canBe 25 = .ok (.iload_n 3, 1) := by decide +kernel
theorem dX8_canBe_26 : decode cX8_canBe 26 = .ok (.iand, 1) := by decide +kernel
theorem dX8_canBe_27 : decode cX8_canBe 27 = .ok (.ifCond .ne 7, 3) := by decide +kernel
theorem dX8_canBe_30 : decode cX8_canBe 30 = .ok (.iconst 1, 1) := by decide +kernel
theorem dX8_canBe_31 : decode cX8_canBe 31 = .ok (.goto 4, 3) := by decide +kernel
theorem dX8_canBe_34 : decode cX8_canBe 34 = .ok (.iconst 0, 1) := by decide +kernel
theorem dX8_canBe_35 : decode cX8_canBe 35 = .ok (.istore 4, 2) := by decide +kernel
theorem dX8_canBe_37 : decode cX8_canBe 37 = .ok (.iconst 0, 1) := by decide +kernel
theorem dX8_canBe_38 : decode cX8_canBe 38 = .ok (.istore 5, 2) := by decide +kernel
theorem dX8_canBe_40 : decode cX8_canBe 40 = .ok (.iload 5, 2) := by decide +kernel
theorem dX8_canBe_42 : decode cX8_canBe 42 = .ok (.aload_n 0, 1) := by decide +kernel
theorem dX8_canBe_43 : decode cX8_canBe 43 = .ok (.getfield 240, 3) := by decide +kernel
theorem dX8_canBe_46 : decode cX8_canBe 46 = .ok (.if_icmp .ge 66, 3) := by decide +kernel
theorem dX8_canBe_49 : decode cX8_canBe 49 = .ok (.iload 4, 2) := by decide +kernel
theorem dX8_canBe_51 : decode cX8_canBe 51 = .ok (.ifCond .eq 61, 3) := by decide +kernel
theorem dX8_canBe_54 : decode cX8_canBe 54 = .ok (.aload_n 0, 1) := by decide +kernel
theorem dX8_canBe_55 : decode cX8_canBe 55 = .ok (.getfield 59, 3) := by decide +kernel
theorem dX8_canBe_58 : decode cX8_canBe 58 = .ok (.iconst 3, 1) := by decide +kernel
theorem dX8_canBe_59 : decode cX8_canBe 59 = .ok (.iload_n 1, 1) := by decide +kernel
theorem dX8_canBe_60 : decode cX8_canBe 60 = .ok (.imul, 1) := by decide +kernel
theorem dX8_canBe_61 : decode cX8_canBe 61 = .ok (.iload 5, 2) := by decide +kernel
theorem dX8_canBe_63 : decode cX8_canBe 63 = .ok (.iadd, 1) := by decide +kernel
theorem dX8_canBe_64 : decode cX8_canBe 64 = .ok (.iaload, 1) := by decide +kernel
theorem dX8_canBe_65 : decode cX8_canBe 65 = .ok (.istore 6, 2) := by decide +kernel
theorem dX8_canBe_67 : decode cX8_canBe 67 = .ok (.aload_n 0, 1) := by decide +kernel
theorem dX8_canBe_68 : decode cX8_canBe 68 = .ok (.iload_n 2, 1) := by decide +kernel
theorem dX8_canBe_69 : decode cX8_canBe 69 = .ok (.iload 5, 2) := by decide +kernel
theorem dX8_canBe_71 : decode cX8_canBe 71 = .ok (.invokevirtual 261, 3) := by decide +kernel
theorem dX8_canBe_74 : decode cX8_canBe 74 = .ok (.aload_n 0, 1) := by decide +kernel
theorem dX8_canBe_75 : decode cX8_canBe 75 = .ok (.getfield 95, 3) := by decide +kernel
theorem dX8_canBe_78 : decode cX8_canBe 78 = .ok (.if_icmp .ge 25, 3) := by decide +kernel
theorem dX8_canBe_81 : decode cX8_canBe 81 = .ok (.iload 6, 2) := by decide +kernel
theorem dX8_canBe_83 : decode cX8_canBe 83 = .ok (.iconst (-1), 1) := by decide +kernel
theorem dX8_canBe_84 : decode cX8_canBe 84 = .ok (.if_icmp .eq 15, 3) := by decide +kernel
theorem dX8_canBe_87 : decode cX8_canBe 87 = .ok (.iload 6, 2) := by decide +kernel
theorem dX8_canBe_89 : decode cX8_canBe 89 = .ok (.aload_n 0, 1) := by decide +kernel
theorem dX8_canBe_90 : decode cX8_canBe 90 = .ok (.iload_n 2, 1) := by decide +kernel
theorem dX8_canBe_91 : decode cX8_canBe 91 = .ok (.iload 5, 2) := by decide +kernel
theorem dX8_canBe_93 : decode cX8_canBe 93 = .ok (.invokevirtual 261, 3) := by decide +kernel
theorem dX8_canBe_96 : decode cX8_canBe 96 = .ok (.if_icmp .ne 7, 3) := by decide +kernel
theorem dX8_canBe_99 : decode cX8_canBe 99 = .ok (.iconst 1, 1) := by decide +kernel
theorem dX8_canBe_100 : decode cX8_canBe 100 = .ok (.goto 4, 3) := by decide +kernel
theorem dX8_canBe_103 : decode cX8_canBe 103 = .ok (.iconst 0, 1) := by decide +kernel
theorem dX8_canBe_104 : decode cX8_canBe 104 = .ok (.istore 4, 2) := by decide +kernel
theorem dX8_canBe_106 : decode cX8_canBe 106 = .ok (.iinc 5 1, 3) := by decide +kernel
theorem dX8_canBe_109 : decode cX8_canBe 109 = .ok (.goto (-69), 3) := by decide +kernel
theorem dX8_canBe_112 : decode cX8_canBe 112 = .ok (.iload 4, 2) := by decide +kernel
theorem dX8_canBe_114 : decode cX8_canBe 114 = .ok (.ireturn, 1) := by decide +kernel
theorem dX8_canBegin_0 : decode cX8_canBegin 0 = .ok (.aload_n 0, 1) := by decide +kernel
theorem dX8_canBegin_1 : decode cX8_canBegin 1 = .ok (.iconst 0, 1) := by decide +kernel
theorem dX8_canBegin_2 : decode cX8_canBegin 2 = .ok (.iload_n 1, 1) := by decide +kernel
theorem dX8_canBegin_3 : decode cX8_canBegin 3 = .ok (.invokevirtual 267, 3) := by decide +kernel
theorem dX8_canBegin_6 : decode cX8_canBegin 6 = .ok (.istore_n 2, 1) := by decide +kernel
theorem dX8_canBegin_7 : decode cX8_canBegin 7 = .ok (.iconst 0, 1) := by decide +kernel
theorem dX8_canBegin_8 : decode cX8_canBegin 8 = .ok (.istore_n 3, 1) := by decide +kernel
theorem dX8_canBegin_9 : decode cX8_canBegin 9 = .ok (.iload_n 3, 1) := by decide +kernel
theorem dX8_canBegin_10 : decode cX8_canBegin 10 = .ok (.aload_n 0, 1) := by decide +kernel
theorem dX8_canBegin_11 : decode cX8_canBegin 11 = .ok (.getfield 240, 3) := by decide +kernel
theorem dX8_canBegin_14 : decode cX8_canBegin 14 = .ok (.if_icmp .ge 51, 3) := by decide +kernel
theorem dX8_canBegin_17 : decode cX8_canBegin 17 = .ok (.iload_n 2, 1) := by decide +kernel
theorem dX8_canBegin_18 : decode cX8_canBegin 18 = .ok (.ifCond .eq 47, 3) := by decide +kernel
theorem dX8_canBegin_21 : decode cX8_canBegin 21 = .ok (.iload_n 1, 1) := by decide +kernel
theorem dX8_canBegin_22 : decode cX8_canBegin 22 = .ok (.iload_n 3, 1) := by decide +kernel
theorem dX8_canBegin_23 : decode cX8_canBegin 23 = .ok (.invokestatic 258, 3) := by decide +kernel
theorem dX8_canBegin_26 : decode cX8_canBegin 26 = .ok (.iconst 2, 1) := by decide +kernel
theorem dX8_canBegin_27 : decode cX8_canBegin 27 = .ok (.irem, 1) := by decide +kernel
theorem dX8_canBegin_28 : decode cX8_canBegin 28 = .ok (.ifCond .ne 29, 3) := by decide +kernel
theorem dX8_canBegin_31 : decode cX8_canBegin 31 = .ok (.aload_n 0, 1) := by decide +kernel
theorem dX8_canBegin_32 : decode cX8_canBegin 32 = .ok (.getfield 32, 3) := by decide +kernel
theorem dX8_canBegin_35 : decode cX8_canBegin 35 = .ok (.iconst 2, 1) := by decide +kernel
theorem dX8_canBegin_36 : decode cX8_canBegin 36 = .ok (.iload_n 3, 1) := by decide +kernel
theorem dX8_canBegin_37 : decode cX8_canBegin 37 = .ok (.imul, 1) := by decide +kernel
theorem dX8_canBegin_38 : decode cX8_canBegin 38 = .ok (.iconst 1, 1) := by decide +kernel
theorem dX8_canBegin_39 : decode cX8_canBegin 39 = .ok (.iadd, 1) := by decide +kernel
theorem dX8_canBegin_40 : decode cX8_canBegin 40 = .ok (.iaload, 1) := by decide +kernel
theorem dX8_canBegin_41 : decode cX8_canBegin 41 = .ok (.aload_n 0, 1) := by decide +kernel
theorem dX8_canBegin_42 : decode cX8_canBegin 42 = .ok (.iload_n 1, 1) := by decide +kernel
theorem dX8_canBegin_43 : decode cX8_canBegin 43 = .ok (.iload_n 3, 1) := by decide +kernel
theorem dX8_canBegin_44 : decode cX8_canBegin 44 = .ok (.invokevirtual 261, 3) := by decide +kernel
theorem dX8_canBegin_47 : decode cX8_canBegin 47 = .ok (.invokestatic 252, 3) := by decide +kernel
theorem dX8_canBegin_50 : decode cX8_canBegin 50 = .ok (.ifCond .eq 7, 3) := by decide +kernel
theorem dX8_canBegin_53 : decode cX8_canBegin 53 = .ok (.iconst 1, 1) := by decide +kernel
theorem dX8_canBegin_54 : decode cX8_canBegin 54 = .ok (.goto 4, 3) := by decide +kernel
theorem dX8_canBegin_57 : decode cX8_canBegin 57 = .ok (.iconst 0, 1) := by decide +kernel
theorem dX8_canBegin_58 : decode cX8_canBegin 58 = .ok (.istore_n 2, 1) := by decide +kernel
theorem dX8_canBegin_59 : decode cX8_canBegin 59 = .ok (.iinc 3 1, 3) := by decide +kernel
theorem dX8_canBegin_62 : decode cX8_canBegin 62 = .ok (.goto (-53), 3) := by decide +kernel
theorem dX8_canBegin_65 : decode cX8_canBegin 65 = .ok (.iload_n 2, 1) := by decide +kernel
theorem dX8_canBegin_66 : decode cX8_canBegin 66 = .ok (.ireturn, 1) := by decide +kernel
theorem dX8_layMoves_0 : decode cX8_layMoves 0 = .ok (.aload_n 0, 1) := by decide +kernel
theorem dX8_layMoves_1 : decode cX8_layMoves 1 = .ok (.iconst 1, 1) := by decide +kernel
theorem dX8_layMoves_2 : decode cX8_layMoves 2 = .ok (.putfield 270, 3) := by decide +kernel
theorem dX8_layMoves_5 : decode cX8_layMoves 5 = .ok (.iconst 0, 1) := by decide +kernel
theorem dX8_layMoves_6 : decode cX8_layMoves 6 = .ok (.istore_n 3, 1) := by decide +kernel
theorem dX8_layMoves_7 : decode cX8_layMoves 7 = .ok (.iload_n 3, 1) := by decide +kernel
theorem dX8_layMoves_8 : decode cX8_layMoves 8 = .ok (.aload_n 0, 1) := by decide +kernel
theorem dX8_layMoves_9 : decode cX8_layMoves 9 = .ok (.getfield 240, 3) := by decide +kernel
theorem dX8_layMoves_12 : decode cX8_layMoves 12 = .ok (.if_icmp .ge 221, 3) := by decide +kernel
theorem dX8_layMoves_15 : decode cX8_layMoves 15 = .ok (.iload_n 2, 1) := by decide +kernel
theorem dX8_layMoves_16 : decode cX8_layMoves 16 = .ok (.iload_n 3, 1) := by decide +kernel
theorem dX8_layMoves_17 : decode cX8_layMoves 17 = .ok (.invokestatic 258, 3) := by decide +kernel
theorem dX8_layMoves_20 : decode cX8_layMoves 20 = .ok (.istore 4, 2) := by decide +kernel
theorem dX8_layMoves_22 : decode cX8_layMoves 22 = .ok (.iload 4, 2) := by decide +kernel
theorem dX8_layMoves_24 : decode cX8_layMoves 24 = .ok (.iconst 2, 1) := by decide +kernel
theorem dX8_layMoves_25 : decode cX8_layMoves 25 = .ok (.idiv, 1) := by decide +kernel
theorem dX8_layMoves_26 : decode cX8_layMoves 26 = .ok (.istore 5, 2) := by decide +kernel
theorem dX8_layMoves_28 : decode cX8_layMoves 28 = .ok (.aload_n 0, 1) := by decide +kernel
theorem dX8_layMoves_29 : decode cX8_layMoves 29 = .ok (.getfield 65, 3) := by decide +kernel
theorem dX8_layMoves_32 : decode cX8_layMoves 32 = .ok (.bipush 9, 2) := by decide +kernel
theorem dX8_layMoves_34 : decode cX8_layMoves 34 = .ok (.iload_n 3, 1) := by decide +kernel
theorem dX8_layMoves_35 : decode cX8_layMoves 35 = .ok (.imul, 1) := by decide +kernel
theorem dX8_layMoves_36 : decode cX8_layMoves 36 = .ok (.iconst (-1), 1) := by decide +kernel
theorem dX8_layMoves_37 : decode cX8_layMoves 37 = .ok (.iastore, 1) := by decide +kernel
theorem dX8_layMoves_38 : decode cX8_layMoves 38 = .ok (.aload_n 0, 1) := by decide +kernel
theorem dX8_layMoves_39 : decode cX8_layMoves 39 = .ok (.getfield 68, 3) := by decide +kernel
theorem dX8_layMoves_42 : decode cX8_layMoves 42 = .ok (.bipush 9, 2) := by decide +kernel
theorem dX8_layMoves_44 : decode cX8_layMoves 44 = .ok (.iload_n 3, 1) := by decide +kernel
theorem dX8_layMoves_45 : decode cX8_layMoves 45 = .ok (.imul, 1) := by decide +kernel
theorem dX8_layMoves_46 : decode cX8_layMoves 46 = .ok (.iconst 2, 1) := by decide +kernel
theorem dX8_layMoves_47 : decode cX8_layMoves 47 = .ok (.iload 5, 2) := by decide +kernel
theorem dX8_layMoves_49 : decode cX8_layMoves 49 = .ok (.imul, 1) := by decide +kernel
theorem dX8_layMoves_50 : decode cX8_layMoves 50 = .ok (.iastore, 1) := by decide +kernel
theorem dX8_layMoves_51 : decode cX8_layMoves 51 = .ok (.iconst 1, 1) := by decide +kernel
theorem dX8_layMoves_52 : decode cX8_layMoves 52 = .ok (.istore 6, 2) := by decide +kernel
theorem dX8_layMoves_54 : decode cX8_layMoves 54 = .ok (.iconst 0, 1) := by decide +kernel
theorem dX8_layMoves_55 : decode cX8_layMoves 55 = .ok (.istore 7, 2) := by decide +kernel
theorem dX8_layMoves_57 : decode cX8_layMoves 57 = .ok (.iload 7, 2) := by decide +kernel
theorem dX8_layMoves_59 : decode cX8_layMoves 59 = .ok (.aload_n 0, 1) := by decide +kernel
theorem dX8_layMoves_60 : decode cX8_layMoves 60 = .ok (.getfield 183, 3) := by decide +kernel
theorem dX8_layMoves_63 : decode cX8_layMoves 63 = .ok (.if_icmp .ge 145, 3) := by decide +kernel
theorem dX8_layMoves_66 : decode cX8_layMoves 66 = .ok (.iload 4, 2) := by decide +kernel
theorem dX8_layMoves_68 : decode cX8_layMoves 68 = .ok (.iconst 2, 1) := by decide +kernel
theorem dX8_layMoves_69 : decode cX8_layMoves 69 = .ok (.irem, 1) := by decide +kernel
theorem dX8_layMoves_70 : decode cX8_layMoves 70 = .ok (.ifCond .ne 138, 3) := by decide +kernel
theorem dX8_layMoves_73 : decode cX8_layMoves 73 = .ok (.aload_n 0, 1) := by decide +kernel
theorem dX8_layMoves_74 : decode cX8_layMoves 74 = .ok (.getfield 29, 3) := by decide +kernel
theorem dX8_layMoves_77 : decode cX8_layMoves 77 = .ok (.iconst 3, 1) := by decide +kernel
theorem dX8_layMoves_78 : decode cX8_layMoves 78 = .ok (.iload 7, 2) := by decide +kernel
theorem dX8_layMoves_80 : decode cX8_layMoves 80 = .ok (.imul, 1) := by decide +kernel
theorem dX8_layMoves_81 : decode cX8_layMoves 81 = .ok (.iaload, 1) := by decide +kernel
theorem dX8_layMoves_82 : decode cX8_layMoves 82 = .ok (.iload 5, 2) := by decide +kernel
theorem dX8_layMoves_84 : decode cX8_layMoves 84 = .ok (.if_icmp .eq 19, 3) := by decide +kernel
theorem dX8_layMoves_87 : decode cX8_layMoves 87 = .ok (.aload_n 0, 1) := by decide +kernel
theorem dX8_layMoves_88 : decode cX8_layMoves 88 = .ok (.getfield 29, 3) := by decide +kernel
theorem dX8_layMoves_91 : decode cX8_layMoves 91 = .ok (.iconst 3, 1) := by decide +kernel
theorem dX8_layMoves_92 : decode cX8_layMoves 92 = .ok (.iload 7, 2) := by decide +kernel
theorem dX8_layMoves_94 : decode cX8_layMoves 94 = .ok (.imul, 1) := by decide +kernel
theorem dX8_layMoves_95 : decode cX8_layMoves 95 = .ok (.iconst 1, 1) := by decide +kernel
theorem dX8_layMoves_96 : decode cX8_layMoves 96 = .ok (.iadd, 1) := by decide +kernel
theorem dX8_layMoves_97 : decode cX8_layMoves 97 = .ok (.iaload, 1) := by decide +kernel
theorem dX8_layMoves_98 : decode cX8_layMoves 98 = .ok (.iload 5, 2) := by decide +kernel
theorem dX8_layMoves_100 : decode cX8_layMoves 100 = .ok (.if_icmp .ne 7, 3) := by decide +kernel
theorem dX8_layMoves_103 : decode cX8_layMoves 103 = .ok (.iconst 1, 1) := by decide +kernel
theorem dX8_layMoves_104 : decode cX8_layMoves 104 = .ok (.goto 4, 3) := by decide +kernel
theorem dX8_layMoves_107 : decode cX8_layMoves 107 = .ok (.iconst 0, 1) := by decide +kernel
theorem dX8_layMoves_108 : decode cX8_layMoves 108 = .ok (.istore 8, 2) := by decide +kernel
theorem dX8_layMoves_110 : decode cX8_layMoves 110 = .ok (.iload 8, 2) := by decide +kernel
theorem dX8_layMoves_112 : decode cX8_layMoves 112 = .ok (.ifCond .eq 90, 3) := by decide +kernel
theorem dX8_layMoves_115 : decode cX8_layMoves 115 = .ok (.aload_n 0, 1) := by decide +kernel
theorem dX8_layMoves_116 : decode cX8_layMoves 116 = .ok (.getfield 50, 3) := by decide +kernel
theorem dX8_layMoves_119 : decode cX8_layMoves 119 = .ok (.iload_n 1, 1) := by decide +kernel
theorem dX8_layMoves_120 : decode cX8_layMoves 120 = .ok (.iaload, 1) := by decide +kernel
theorem dX8_layMoves_121 : decode cX8_layMoves 121 = .ok (.iload 7, 2) := by decide +kernel
theorem dX8_layMoves_123 : decode cX8_layMoves 123 = .ok (.invokestatic 252, 3) := by decide +kernel
theorem dX8_layMoves_126 : decode cX8_layMoves 126 = .ok (.ifCond .ne 76, 3) := by decide +kernel
theorem dX8_layMoves_129 : decode cX8_layMoves 129 = .ok (.aload_n 0, 1) := by decide +kernel
theorem dX8_layMoves_130 : decode cX8_layMoves 130 = .ok (.getfield 65, 3) := by decide +kernel
theorem dX8_layMoves_133 : decode cX8_layMoves 133 = .ok (.bipush 9, 2) := by decide +kernel
theorem dX8_layMoves_135 : decode cX8_layMoves 135 = .ok (.iload_n 3, 1) := by decide +kernel
theorem dX8_layMoves_136 : decode cX8_layMoves 136 = .ok (.imul, 1) := by decide +kernel
theorem dX8_layMoves_137 : decode cX8_layMoves 137 = .ok (.iload 6, 2) := by decide +kernel
theorem dX8_layMoves_139 : decode cX8_layMoves 139 = .ok (.iadd, 1) := by decide +kernel
theorem dX8_layMoves_140 : decode cX8_layMoves 140 = .ok (.iload 7, 2) := by decide +kernel
theorem dX8_layMoves_142 : decode cX8_layMoves 142 = .ok (.iastore, 1) := by decide +kernel
theorem dX8_layMoves_143 : decode cX8_layMoves 143 = .ok (.aload_n 0, 1) := by decide +kernel
theorem dX8_layMoves_144 : decode cX8_layMoves 144 = .ok (.getfield 68, 3) := by decide +kernel
theorem dX8_layMoves_147 : decode cX8_layMoves 147 = .ok (.bipush 9, 2) := by decide +kernel
theorem dX8_layMoves_149 : decode cX8_layMoves 149 = .ok (.iload_n 3, 1) := by decide +kernel
theorem dX8_layMoves_150 : decode cX8_layMoves 150 = .ok (.imul, 1) := by decide +kernel
theorem dX8_layMoves_151 : decode cX8_layMoves 151 = .ok (.iload 6, 2) := by decide +kernel
theorem dX8_layMoves_153 : decode cX8_layMoves 153 = .ok (.iadd, 1) := by decide +kernel
theorem dX8_layMoves_154 : decode cX8_layMoves 154 = .ok (.iconst 2, 1) := by decide +kernel
theorem dX8_layMoves_155 : decode cX8_layMoves 155 = .ok (.aload_n 0, 1) := by decide +kernel
theorem dX8_layMoves_156 : decode cX8_layMoves 156 = .ok (.getfield 29, 3) := by decide +kernel
theorem dX8_layMoves_159 : decode cX8_layMoves 159 = .ok (.iconst 3, 1) := by decide +kernel
theorem dX8_layMoves_160 : decode cX8_layMoves 160 = .ok (.iload 7, 2) := by decide +kernel
theorem dX8_layMoves_162 : decode cX8_layMoves 162 = .ok (.imul, 1) := by decide +kernel
theorem dX8_layMoves_163 : decode cX8_layMoves 163 = .ok (.iaload, 1) := by decide +kernel
theorem dX8_layMoves_164 : decode cX8_layMoves 164 = .ok (.aload_n 0, 1) := by decide +kernel
theorem dX8_layMoves_165 : decode cX8_layMoves 165 = .ok (.getfield 29, 3) := by decide +kernel
theorem dX8_layMoves_168 : decode cX8_layMoves 168 = .ok (.iconst 3, 1) := by decide +kernel
theorem dX8_layMoves_169 : decode cX8_layMoves 169 = .ok (.iload 7, 2) := by decide +kernel
theorem dX8_layMoves_171 : decode cX8_layMoves 171 = .ok (.imul, 1) := by decide +kernel
theorem dX8_layMoves_172 : decode cX8_layMoves 172 = .ok (.iconst 1, 1) := by decide +kernel
theorem dX8_layMoves_173 : decode cX8_layMoves 173 = .ok (.iadd, 1) := by decide +kernel
theorem dX8_layMoves_174 : decode cX8_layMoves 174 = .ok (.iaload, 1) := by decide +kernel
theorem dX8_layMoves_175 : decode cX8_layMoves 175 = .ok (.iadd, 1) := by decide +kernel
theorem dX8_layMoves_176 : decode cX8_layMoves 176 = .ok (.iload 5, 2) := by decide +kernel
theorem dX8_layMoves_178 : decode cX8_layMoves 178 = .ok (.isub, 1) := by decide +kernel
theorem dX8_layMoves_179 : decode cX8_layMoves 179 = .ok (.imul, 1) := by decide +kernel
theorem dX8_layMoves_180 : decode cX8_layMoves 180 = .ok (.aload_n 0, 1) := by decide +kernel
theorem dX8_layMoves_181 : decode cX8_layMoves 181 = .ok (.getfield 32, 3) := by decide +kernel
theorem dX8_layMoves_184 : decode cX8_layMoves 184 = .ok (.iconst 2, 1) := by decide +kernel
theorem dX8_layMoves_185 : decode cX8_layMoves 185 = .ok (.iload_n 3, 1) := by decide +kernel
theorem dX8_layMoves_186 : decode cX8_layMoves 186 = .ok (.imul, 1) := by decide +kernel
theorem dX8_layMoves_187 : decode cX8_layMoves 187 = .ok (.iaload, 1) := by decide +kernel
theorem dX8_layMoves_188 : decode cX8_layMoves 188 = .ok (.iconst 2, 1) := by decide +kernel
theorem dX8_layMoves_189 : decode cX8_layMoves 189 = .ok (.if_icmp .ne 7, 3) := by decide +kernel
theorem dX8_layMoves_192 : decode cX8_layMoves 192 = .ok (.iconst 1, 1) := by decide +kernel
theorem dX8_layMoves_193 : decode cX8_layMoves 193 = .ok (.goto 4, 3) := by decide +kernel
theorem dX8_layMoves_196 : decode cX8_layMoves 196 = .ok (.iconst 0, 1) := by decide +kernel
theorem dX8_layMoves_197 : decode cX8_layMoves 197 = .ok (.iadd, 1) := by decide +kernel
theorem dX8_layMoves_198 : decode cX8_layMoves 198 = .ok (.iastore, 1) := by decide +kernel
theorem dX8_layMoves_199 : decode cX8_layMoves 199 = .ok (.iinc 6 1, 3) := by decide +kernel
theorem dX8_layMoves_202 : decode cX8_layMoves 202 = .ok (.iinc 7 1, 3) := by decide +kernel
theorem dX8_layMoves_205 : decode cX8_layMoves 205 = .ok (.goto (-148), 3) := by decide +kernel
theorem dX8_layMoves_208 : decode cX8_layMoves 208 = .ok (.aload_n 0, 1) := by decide +kernel
theorem dX8_layMoves_209 : decode cX8_layMoves 209 = .ok (.getfield 62, 3) := by decide +kernel
theorem dX8_layMoves_212 : decode cX8_layMoves 212 = .ok (.iload_n 3, 1) := by decide +kernel
theorem dX8_layMoves_213 : decode cX8_layMoves 213 = .ok (.iload 6, 2) := by decide +kernel
theorem dX8_layMoves_215 : decode cX8_layMoves 215 = .ok (.iastore, 1) := by decide +kernel
theorem dX8_layMoves_216 : decode cX8_layMoves 216 = .ok (.aload_n 0, 1) := by decide +kernel
theorem dX8_layMoves_217 : decode cX8_layMoves 217 = .ok (.dup, 1) := by decide +kernel
theorem dX8_layMoves_218 : decode cX8_layMoves 218 = .ok (.getfield 270, 3) := by decide +kernel
theorem dX8_layMoves_221 : decode cX8_layMoves 221 = .ok (.iload 6, 2) := by decide +kernel
theorem dX8_layMoves_223 : decode cX8_layMoves 223 = .ok (.imul, 1) := by decide +kernel
theorem dX8_layMoves_224 : decode cX8_layMoves 224 = .ok (.putfield 270, 3) := by decide +kernel
theorem dX8_layMoves_227 : decode cX8_layMoves 227 = .ok (.iinc 3 1, 3) := by decide +kernel
theorem dX8_layMoves_230 : decode cX8_layMoves 230 = .ok (.goto (-223), 3) := by decide +kernel
theorem dX8_layMoves_233 : decode cX8_layMoves 233 = .ok (.return_, 1) := by decide +kernel
theorem dX8_take_0 : decode cX8_take 0 = .ok (.iload_n 1, 1) := by decide +kernel
theorem dX8_take_1 : decode cX8_take 1 = .ok (.istore_n 2, 1) := by decide +kernel
theorem dX8_take_2 : decode cX8_take 2 = .ok (.iconst 1, 1) := by decide +kernel
theorem dX8_take_3 : decode cX8_take 3 = .ok (.istore_n 3, 1) := by decide +kernel
theorem dX8_take_4 : decode cX8_take 4 = .ok (.aload_n 0, 1) := by decide +kernel
theorem dX8_take_5 : decode cX8_take 5 = .ok (.iconst 0, 1) := by decide +kernel
theorem dX8_take_6 : decode cX8_take 6 = .ok (.putfield 273, 3) := by decide +kernel
theorem dX8_take_9 : decode cX8_take 9 = .ok (.aload_n 0, 1) := by decide +kernel
theorem dX8_take_10 : decode cX8_take 10 = .ok (.iconst 0, 1) := by decide +kernel
theorem dX8_take_11 : decode cX8_take 11 = .ok (.putfield 276, 3) := by decide +kernel
theorem dX8_take_14 : decode cX8_take 14 = .ok (.iconst 0, 1) := by decide +kernel
theorem dX8_take_15 : decode cX8_take 15 = .ok (.istore 4, 2) := by decide +kernel
theorem dX8_take_17 : decode cX8_take 17 = .ok (.iload 4, 2) := by decide +kernel
theorem dX8_take_19 : decode cX8_take 19 = .ok (.aload_n 0, 1) := by decide +kernel
theorem dX8_take_20 : decode cX8_take 20 = .ok (.getfield 240, 3) := by decide +kernel
theorem dX8_take_23 : decode cX8_take 23 = .ok (.if_icmp .ge 105, 3) := by decide +kernel
theorem dX8_take_26 : decode cX8_take 26 = .ok (.bipush 9, 2) := by decide +kernel
theorem dX8_take_28 : decode cX8_take 28 = .ok (.iload 4, 2) := by decide +kernel
theorem dX8_take_30 : decode cX8_take 30 = .ok (.imul, 1) := by decide +kernel
theorem dX8_take_31 : decode cX8_take 31 = .ok (.iload_n 2, 1) := by decide +kernel
theorem dX8_take_32 : decode cX8_take 32 = .ok (.aload_n 0, 1) := by decide +kernel
theorem dX8_take_33 : decode cX8_take 33 = .ok (.getfield 62, 3) := by decide +kernel
theorem dX8_take_36 : decode cX8_take 36 = .ok (.iload 4, 2) := by decide +kernel
theorem dX8_take_38 : decode cX8_take 38 = .ok (.iaload, 1) := by decide +kernel
theorem dX8_take_39 : decode cX8_take 39 = .ok (.irem, 1) := by decide +kernel
theorem dX8_take_40 : decode cX8_take 40 = .ok (.iadd, 1) := by decide +kernel
theorem dX8_take_41 : decode cX8_take 41 = .ok (.istore 5, 2) := by decide +kernel
theorem dX8_take_43 : decode cX8_take 43 = .ok (.iload_n 2, 1) := by decide +kernel
theorem dX8_take_44 : decode cX8_take 44 = .ok (.aload_n 0, 1) := by decide +kernel
theorem dX8_take_45 : decode cX8_take 45 = .ok (.getfield 62, 3) := by decide +kernel
theorem dX8_take_48 : decode cX8_take 48 = .ok (.iload 4, 2) := by decide +kernel
theorem dX8_take_50 : decode cX8_take 50 = .ok (.iaload, 1) := by decide +kernel
theorem dX8_take_51 : decode cX8_take 51 = .ok (.idiv, 1) := by decide +kernel
theorem dX8_take_52 : decode cX8_take 52 = .ok (.istore_n 2, 1) := by decide +kernel
theorem dX8_take_53 : decode cX8_take 53 = .ok (.aload_n 0, 1) := by decide +kernel
theorem dX8_take_54 : decode cX8_take 54 = .ok (.getfield 71, 3) := by decide +kernel
theorem dX8_take_57 : decode cX8_take 57 = .ok (.iload 4, 2) := by decide +kernel
theorem dX8_take_59 : decode cX8_take 59 = .ok (.aload_n 0, 1) := by decide +kernel
theorem dX8_take_60 : decode cX8_take 60 = .ok (.getfield 65, 3) := by decide +kernel
theorem dX8_take_63 : decode cX8_take 63 = .ok (.iload 5, 2) := by decide +kernel
theorem dX8_take_65 : decode cX8_take 65 = .ok (.iaload, 1) := by decide +kernel
theorem dX8_take_66 : decode cX8_take 66 = .ok (.iastore, 1) := by decide +kernel
theorem dX8_take_67 : decode cX8_take 67 = .ok (.aload_n 0, 1) := by decide +kernel
theorem dX8_take_68 : decode cX8_take 68 = .ok (.dup, 1) := by decide +kernel
theorem dX8_take_69 : decode cX8_take 69 = .ok (.getfield 273, 3) := by decide +kernel
theorem dX8_take_72 : decode cX8_take 72 = .ok (.aload_n 0, 1) := by decide +kernel
theorem dX8_take_73 : decode cX8_take 73 = .ok (.getfield 65, 3) := by decide +kernel
theorem dX8_take_76 : decode cX8_take 76 = .ok (.iload 5, 2) := by decide +kernel
theorem dX8_take_78 : decode cX8_take 78 = .ok (.iaload, 1) := by decide +kernel
theorem dX8_take_79 : decode cX8_take 79 = .ok (.ifCond .ge 7, 3) := by decide +kernel
theorem dX8_take_82 : decode cX8_take 82 = .ok (.iconst 0, 1) := by decide +kernel
theorem dX8_take_83 : decode cX8_take 83 = .ok (.goto 12, 3) := by decide +kernel
theorem dX8_take_86 : decode cX8_take 86 = .ok (.iconst 1, 1) := by decide +kernel
theorem dX8_take_87 : decode cX8_take 87 = .ok (.aload_n 0, 1) := by decide +kernel
theorem dX8_take_88 : decode cX8_take 88 = .ok (.getfield 65, 3) := by decide +kernel
theorem dX8_take_91 : decode cX8_take 91 = .ok (.iload 5, 2) := by decide +kernel
theorem dX8_take_93 : decode cX8_take 93 = .ok (.iaload, 1) := by decide +kernel
theorem dX8_take_94 : decode cX8_take 94 = .ok (.ishl, 1) := by decide +kernel
theorem dX8_take_95 : decode cX8_take 95 = .ok (.ior, 1) := by decide +kernel
theorem dX8_take_96 : decode cX8_take 96 = .ok (.putfield 273, 3) := by decide +kernel
theorem dX8_take_99 : decode cX8_take 99 = .ok (.aload_n 0, 1) := by decide +kernel
theorem dX8_take_100 : decode cX8_take 100 = .ok (.dup, 1) := by decide +kernel
theorem dX8_take_101 : decode cX8_take 101 = .ok (.getfield 276, 3) := by decide +kernel
theorem dX8_take_104 : decode cX8_take 104 = .ok (.iload_n 3, 1) := by decide +kernel
theorem dX8_take_105 : decode cX8_take 105 = .ok (.aload_n 0, 1) := by decide +kernel
theorem dX8_take_106 : decode cX8_take 106 = .ok (.getfield 68, 3) := by decide +kernel
theorem dX8_take_109 : decode cX8_take 109 = .ok (.iload 5, 2) := by decide +kernel
theorem dX8_take_111 : decode cX8_take 111 = .ok (.iaload, 1) := by decide +kernel
theorem dX8_take_112 : decode cX8_take 112 = .ok (.imul, 1) := by decide +kernel
theorem dX8_take_113 : decode cX8_take 113 = .ok (.iadd, 1) := by decide +kernel
theorem dX8_take_114 : decode cX8_take 114 = .ok (.putfield 276, 3) := by decide +kernel
theorem dX8_take_117 : decode cX8_take 117 = .ok (.iload_n 3, 1) := by decide +kernel
theorem dX8_take_118 : decode cX8_take 118 = .ok (.bipush 12, 2) := by decide +kernel
theorem dX8_take_120 : decode cX8_take 120 = .ok (.imul, 1) := by decide +kernel
theorem dX8_take_121 : decode cX8_take 121 = .ok (.istore_n 3, 1) := by decide +kernel
theorem dX8_take_122 : decode cX8_take 122 = .ok (.iinc 4 1, 3) := by decide +kernel
theorem dX8_take_125 : decode cX8_take 125 = .ok (.goto (-108), 3) := by decide +kernel
theorem dX8_take_128 : decode cX8_take 128 = .ok (.return_, 1) := by decide +kernel
theorem dX8_isHeard_0 : decode cX8_isHeard 0 = .ok (.aload_n 0, 1) := by decide +kernel
theorem dX8_isHeard_1 : decode cX8_isHeard 1 = .ok (.getfield 243, 3) := by decide +kernel
theorem dX8_isHeard_4 : decode cX8_isHeard 4 = .ok (.ifCond .lt 27, 3) := by decide +kernel
theorem dX8_isHeard_7 : decode cX8_isHeard 7 = .ok (.iload_n 1, 1) := by decide +kernel
theorem dX8_isHeard_8 : decode cX8_isHeard 8 = .ok (.aload_n 0, 1) := by decide +kernel
theorem dX8_isHeard_9 : decode cX8_isHeard 9 = .ok (.getfield 246, 3) := by decide +kernel
theorem dX8_isHeard_12 : decode cX8_isHeard 12 = .ok (.if_icmp .lt 19, 3) := by decide +kernel
theorem dX8_isHeard_15 : decode cX8_isHeard 15 = .ok (.aload_n 0, 1) := by decide +kernel
theorem dX8_isHeard_16 : decode cX8_isHeard 16 = .ok (.getfield 249, 3) := by decide +kernel
theorem dX8_isHeard_19 : decode cX8_isHeard 19 = .ok (.iconst 1, 1) := by decide +kernel
theorem dX8_isHeard_20 : decode cX8_isHeard 20 = .ok (.aload_n 0, 1) := by decide +kernel
theorem dX8_isHeard_21 : decode cX8_isHeard 21 = .ok (.getfield 243, 3) := by decide +kernel
theorem dX8_isHeard_24 : decode cX8_isHeard 24 = .ok (.ishl, 1) := by decide +kernel
theorem dX8_isHeard_25 : decode cX8_isHeard 25 = .ok (.iconst (-1), 1) := by decide +kernel
theorem dX8_isHeard_26 : decode cX8_isHeard 26 = .ok (.ixor, 1) := by decide +kernel
theorem dX8_isHeard_27 : decode cX8_isHeard 27 = .ok (.iand, 1) := by decide +kernel
theorem dX8_isHeard_28 : decode cX8_isHeard 28 = .ok (.goto 7, 3) := by decide +kernel
theorem dX8_isHeard_31 : decode cX8_isHeard 31 = .ok (.aload_n 0, 1) := by decide +kernel
theorem dX8_isHeard_32 : decode cX8_isHeard 32 = .ok (.getfield 249, 3) := by decide +kernel
theorem dX8_isHeard_35 : decode cX8_isHeard 35 = .ok (.istore_n 2, 1) := by decide +kernel
theorem dX8_isHeard_36 : decode cX8_isHeard 36 = .ok (.aload_n 0, 1) := by decide +kernel
theorem dX8_isHeard_37 : decode cX8_isHeard 37 = .ok (.getfield 273, 3) := by decide +kernel
theorem dX8_isHeard_40 : decode cX8_isHeard 40 = .ok (.iload_n 2, 1) := by decide +kernel
theorem dX8_isHeard_41 : decode cX8_isHeard 41 = .ok (.iand, 1) := by decide +kernel
theorem dX8_isHeard_42 : decode cX8_isHeard 42 = .ok (.aload_n 0, 1) := by decide +kernel
theorem dX8_isHeard_43 : decode cX8_isHeard 43 = .ok (.getfield 47, 3) := by decide +kernel
theorem dX8_isHeard_46 : decode cX8_isHeard 46 = .ok (.iload_n 1, 1) := by decide +kernel
theorem dX8_isHeard_47 : decode cX8_isHeard 47 = .ok (.iaload, 1) := by decide +kernel
theorem dX8_isHeard_48 : decode cX8_isHeard 48 = .ok (.if_icmp .ne 7, 3) := by decide +kernel
theorem dX8_isHeard_51 : decode cX8_isHeard 51 = .ok (.iconst 1, 1) := by decide +kernel
theorem dX8_isHeard_52 : decode cX8_isHeard 52 = .ok (.goto 4, 3) := by decide +kernel
theorem dX8_isHeard_55 : decode cX8_isHeard 55 = .ok (.iconst 0, 1) := by decide +kernel
theorem dX8_isHeard_56 : decode cX8_isHeard 56 = .ok (.ireturn, 1) := by decide +kernel
theorem dX8_canTake_0 : decode cX8_canTake 0 = .ok (.aload_n 0, 1) := by decide +kernel
theorem dX8_canTake_1 : decode cX8_canTake 1 = .ok (.iload_n 1, 1) := by decide +kernel
theorem dX8_canTake_2 : decode cX8_canTake 2 = .ok (.invokevirtual 279, 3) := by decide +kernel
theorem dX8_canTake_5 : decode cX8_canTake 5 = .ok (.ifCond .eq 21, 3) := by decide +kernel
theorem dX8_canTake_8 : decode cX8_canTake 8 = .ok (.aload_n 0, 1) := by decide +kernel
theorem dX8_canTake_9 : decode cX8_canTake 9 = .ok (.iload_n 1, 1) := by decide +kernel
theorem dX8_canTake_10 : decode cX8_canTake 10 = .ok (.iconst 1, 1) := by decide +kernel
theorem dX8_canTake_11 : decode cX8_canTake 11 = .ok (.iadd, 1) := by decide +kernel
theorem dX8_canTake_12 : decode cX8_canTake 12 = .ok (.aload_n 0, 1) := by decide +kernel
theorem dX8_canTake_13 : decode cX8_canTake 13 = .ok (.getfield 276, 3) := by decide +kernel
theorem dX8_canTake_16 : decode cX8_canTake 16 = .ok (.invokevirtual 267, 3) := by decide +kernel
theorem dX8_canTake_19 : decode cX8_canTake 19 = .ok (.ifCond .eq 7, 3) := by decide +kernel
theorem dX8_canTake_22 : decode cX8_canTake 22 = .ok (.iconst 1, 1) := by decide +kernel
theorem dX8_canTake_23 : decode cX8_canTake 23 = .ok (.goto 4, 3) := by decide +kernel
theorem dX8_canTake_26 : decode cX8_canTake 26 = .ok (.iconst 0, 1) := by decide +kernel
theorem dX8_canTake_27 : decode cX8_canTake 27 = .ok (.ireturn, 1) := by decide +kernel
theorem dX8_more_0 : decode cX8_more 0 = .ok (.lload_n 0, 1) := by decide +kernel
theorem dX8_more_1 : decode cX8_more 1 = .ok (.lload_n 2, 1) := by decide +kernel
theorem dX8_more_2 : decode cX8_more 2 = .ok (.ladd, 1) := by decide +kernel
theorem dX8_more_3 : decode cX8_more 3 = .ok (.ldc2_w 282, 3) := by decide +kernel
theorem dX8_more_6 : decode cX8_more 6 = .ok (.lcmp, 1) := by decide +kernel
theorem dX8_more_7 : decode cX8_more 7 = .ok (.ifCond .le 9, 3) := by decide +kernel
theorem dX8_more_10 : decode cX8_more 10 = .ok (.ldc2_w 284, 3) := by decide +kernel
theorem dX8_more_13 : decode cX8_more 13 = .ok (.goto 6, 3) := by decide +kernel
theorem dX8_more_16 : decode cX8_more 16 = .ok (.lload_n 0, 1) := by decide +kernel
theorem dX8_more_17 : decode cX8_more 17 = .ok (.lload_n 2, 1) := by decide +kernel
theorem dX8_more_18 : decode cX8_more 18 = .ok (.ladd, 1) := by decide +kernel
theorem dX8_more_19 : decode cX8_more 19 = .ok (.lreturn, 1) := by decide +kernel
theorem dX8_layFront_0 : decode cX8_layFront 0 = .ok (.aload_n 0, 1) := by decide +kernel
theorem dX8_layFront_1 : decode cX8_layFront 1 = .ok (.invokevirtual 286, 3) := by decide +kernel
theorem dX8_layFront_4 : decode cX8_layFront 4 = .ok (.istore_n 1, 1) := by decide +kernel
theorem dX8_layFront_5 : decode cX8_layFront 5 = .ok (.iconst 0, 1) := by decide +kernel
theorem dX8_layFront_6 : decode cX8_layFront 6 = .ok (.istore_n 2, 1) := by decide +kernel
theorem dX8_layFront_7 : decode cX8_layFront 7 = .ok (.iload_n 2, 1) := by decide +kernel
theorem dX8_layFront_8 : decode cX8_layFront 8 = .ok (.iload_n 1, 1) := by decide +kernel
theorem dX8_layFront_9 : decode cX8_layFront 9 = .ok (.if_icmp .ge 28, 3) := by decide +kernel
theorem dX8_layFront_12 : decode cX8_layFront 12 = .ok (.aload_n 0, 1) := by decide +kernel
theorem dX8_layFront_13 : decode cX8_layFront 13 = .ok (.getfield 75, 3) := by decide +kernel
theorem dX8_layFront_16 : decode cX8_layFront 16 = .ok (.iload_n 2, 1) := by decide +kernel
theorem dX8_layFront_17 : decode cX8_layFront 17 = .ok (.aload_n 0, 1) := by decide +kernel
theorem dX8_layFront_18 : decode cX8_layFront 18 = .ok (.iload_n 2, 1) := by decide +kernel
theorem dX8_layFront_19 : decode cX8_layFront 19 = .ok (.invokevirtual 290, 3) := by decide +kernel
theorem dX8_layFront_22 : decode cX8_layFront 22 = .ok (.ifCond .eq 7, 3) := by decide +kernel
theorem dX8_layFront_25 : decode cX8_layFront 25 = .ok (.lconst 1, 1) := by decide +kernel
theorem dX8_layFront_26 : decode cX8_layFront 26 = .ok (.goto 4, 3) := by decide +kernel
theorem dX8_layFront_29 : decode cX8_layFront 29 = .ok (.lconst 0, 1) := by decide +kernel
theorem dX8_layFront_30 : decode cX8_layFront 30 = .ok (.lastore, 1) := by decide +kernel
theorem dX8_layFront_31 : decode cX8_layFront 31 = .ok (.iinc 2 1, 3) := by decide +kernel
theorem dX8_layFront_34 : decode cX8_layFront 34 = .ok (.goto (-27), 3) := by decide +kernel
theorem dX8_layFront_37 : decode cX8_layFront 37 = .ok (.iconst 0, 1) := by decide +kernel
theorem dX8_layFront_38 : decode cX8_layFront 38 = .ok (.istore_n 2, 1) := by decide +kernel
theorem dX8_layFront_39 : decode cX8_layFront 39 = .ok (.iload_n 2, 1) := by decide +kernel
theorem dX8_layFront_40 : decode cX8_layFront 40 = .ok (.aload_n 0, 1) := by decide +kernel
theorem dX8_layFront_41 : decode cX8_layFront 41 = .ok (.getfield 99, 3) := by decide +kernel
theorem dX8_layFront_44 : decode cX8_layFront 44 = .ok (.if_icmp .gt 132, 3) := by decide +kernel
theorem dX8_layFront_47 : decode cX8_layFront 47 = .ok (.iconst 0, 1) := by decide +kernel
theorem dX8_layFront_48 : decode cX8_layFront 48 = .ok (.istore_n 3, 1) := by decide +kernel
theorem dX8_layFront_49 : decode cX8_layFront 49 = .ok (.iconst 0, 1) := by decide +kernel
theorem dX8_layFront_50 : decode cX8_layFront 50 = .ok (.istore 4, 2) := by decide +kernel
theorem dX8_layFront_52 : decode cX8_layFront 52 = .ok (.iload 4, 2) := by decide +kernel
theorem dX8_layFront_54 : decode cX8_layFront 54 = .ok (.iload_n 1, 1) := by decide +kernel
theorem dX8_layFront_55 : decode cX8_layFront 55 = .ok (.if_icmp .ge 61, 3) := by decide +kernel
theorem dX8_layFront_58 : decode cX8_layFront 58 = .ok (.iload_n 3, 1) := by decide +kernel
theorem dX8_layFront_59 : decode cX8_layFront 59 = .ok (.ifCond .ne 21, 3) := by decide +kernel
theorem dX8_layFront_62 : decode cX8_layFront 62 = .ok (.aload_n 0, 1) := by decide +kernel
theorem dX8_layFront_63 : decode cX8_layFront 63 = .ok (.getfield 75, 3) := by decide +kernel
theorem dX8_layFront_66 : decode cX8_layFront 66 = .ok (.sipush 1728, 3) := by decide +kernel
theorem dX8_layFront_69 : decode cX8_layFront 69 = .ok (.iload_n 2, 1) := by decide +kernel
theorem dX8_layFront_70 : decode cX8_layFront 70 = .ok (.imul, 1) := by decide +kernel
theorem dX8_layFront_71 : decode cX8_layFront 71 = .ok (.iload 4, 2) := by decide +kernel
theorem dX8_layFront_73 : decode cX8_layFront 73 = .ok (.iadd, 1) := by decide +kernel
theorem dX8_layFront_74 : decode cX8_layFront 74 = .ok (.laload, 1) := by decide +kernel
theorem dX8_layFront_75 : decode cX8_layFront 75 = .ok (.lconst 0, 1) := by decide +kernel
theorem dX8_layFront_76 : decode cX8_layFront 76 = .ok (.lcmp, 1) := by decide +kernel
theorem dX8_layFront_77 : decode cX8_layFront 77 = .ok (.ifCond .le 7, 3) := by decide +kernel
theorem dX8_layFront_80 : decode cX8_layFront 80 = .ok (.iconst 1, 1) := by decide +kernel
theorem dX8_layFront_81 : decode cX8_layFront 81 = .ok (.goto 4, 3) := by decide +kernel
theorem dX8_layFront_84 : decode cX8_layFront 84 = .ok (.iconst 0, 1) := by decide +kernel
theorem dX8_layFront_85 : decode cX8_layFront 85 = .ok (.istore_n 3, 1) := by decide +kernel
theorem dX8_layFront_86 : decode cX8_layFront 86 = .ok (.iload_n 2, 1) := by decide +kernel
theorem dX8_layFront_87 : decode cX8_layFront 87 = .ok (.aload_n 0, 1) := by decide +kernel
theorem dX8_layFront_88 : decode cX8_layFront 88 = .ok (.getfield 99, 3) := by decide +kernel
theorem dX8_layFront_91 : decode cX8_layFront 91 = .ok (.if_icmp .ge 19, 3) := by decide +kernel
theorem dX8_layFront_94 : decode cX8_layFront 94 = .ok (.aload_n 0, 1) := by decide +kernel
theorem dX8_layFront_95 : decode cX8_layFront 95 = .ok (.getfield 75, 3) := by decide +kernel
theorem dX8_layFront_98 : decode cX8_layFront 98 = .ok (.sipush 1728, 3) := by decide +kernel
theorem dX8_layFront_101 : decode cX8_layFront 101 = .ok (.iload_n 2, 1) := by decide +kernel
theorem dX8_layFront_102 : decode cX8_layFront 102 = .ok (.iconst 1, 1) := by decide +kernel
theorem dX8_layFront_103 : decode cX8_layFront 103 = .ok (.iadd, 1) := by decide +kernel
theorem dX8_layFront_104 : decode cX8_layFront 104 = .ok (.imul, 1) := by decide +kernel
theorem dX8_layFront_105 : decode cX8_layFront 105 = .ok (.iload 4, 2) := by decide +kernel
theorem dX8_layFront_107 : decode cX8_layFront 107 = .ok (.iadd, 1) := by decide +kernel
theorem dX8_layFront_108 : decode cX8_layFront 108 = .ok (.lconst 0, 1) := by decide +kernel
theorem dX8_layFront_109 : decode cX8_layFront 109 = .ok (.lastore, 1) := by decide +kernel
theorem dX8_layFront_110 : decode cX8_layFront 110 = .ok (.iinc 4 1, 3) := by decide +kernel
theorem dX8_layFront_113 : decode cX8_layFront 113 = .ok (.goto (-61), 3) := by decide +kernel
theorem dX8_layFront_116 : decode cX8_layFront 116 = .ok (.iload_n 3, 1) := by decide +kernel
theorem dX8_layFront_117 : decode cX8_layFront 117 = .ok (.ifCond .ne 5, 3) := by decide +kernel
theorem dX8_layFront_120 : decode cX8_layFront 120 = .ok (.iload_n 2, 1) := by decide +kernel
theorem dX8_layFront_121 : decode cX8_layFront 121 = .ok (.ireturn, 1) := by decide +kernel
theorem dX8_layFront_122 : decode cX8_layFront 122 = .ok (.iconst 0, 1) := by decide +kernel
theorem dX8_layFront_123 : decode cX8_layFront 123 = .ok (.istore 4, 2) := by decide +kernel
theorem dX8_layFront_125 : decode cX8_layFront 125 = .ok (.iload 4, 2) := by decide +kernel
theorem dX8_layFront_127 : decode cX8_layFront 127 = .ok (.iload_n 1, 1) := by decide +kernel
theorem dX8_layFront_128 : decode cX8_layFront 128 = .ok (.if_icmp .ge 42, 3) := by decide +kernel
theorem dX8_layFront_131 : decode cX8_layFront 131 = .ok (.iload_n 2, 1) := by decide +kernel
theorem dX8_layFront_132 : decode cX8_layFront 132 = .ok (.aload_n 0, 1) := by decide +kernel
theorem dX8_layFront_133 : decode cX8_layFront 133 = .ok (.getfield 99, 3) := by decide +kernel
theorem dX8_layFront_136 : decode cX8_layFront 136 = .ok (.if_icmp .ge 34, 3) := by decide +kernel
theorem dX8_layFront_139 : decode cX8_layFront 139 = .ok (.aload_n 0, 1) := by decide +kernel
theorem dX8_layFront_140 : decode cX8_layFront 140 = .ok (.getfield 75, 3) := by decide +kernel
theorem dX8_layFront_143 : decode cX8_layFront 143 = .ok (.sipush 1728, 3) := by decide +kernel
theorem dX8_layFront_146 : decode cX8_layFront 146 = .ok (.iload_n 2, 1) := by decide +kernel
theorem dX8_layFront_147 : decode cX8_layFront 147 = .ok (.imul, 1) := by decide +kernel
theorem dX8_layFront_148 : decode cX8_layFront 148 = .ok (.iload 4, 2) := by decide +kernel
theorem dX8_layFront_150 : decode cX8_layFront 150 = .ok (.iadd, 1) := by decide +kernel
theorem dX8_layFront_151 : decode cX8_layFront 151 = .ok (.laload, 1) := by decide +kernel
theorem dX8_layFront_152 : decode cX8_layFront 152 = .ok (.lconst 0, 1) := by decide +kernel
theorem dX8_layFront_153 : decode cX8_layFront 153 = .ok (.lcmp, 1) := by decide +kernel
theorem dX8_layFront_154 : decode cX8_layFront 154 = .ok (.ifCond .le 10, 3) := by decide +kernel
theorem dX8_layFront_157 : decode cX8_layFront 157 = .ok (.aload_n 0, 1) := by decide +kernel
theorem dX8_layFront_158 : decode cX8_layFront 158 = .ok (.iload_n 2, 1) := by decide +kernel
theorem dX8_layFront_159 : decode cX8_layFront 159 = .ok (.iload 4, 2) := by decide +kernel
theorem dX8_layFront_161 : decode cX8_layFront 161 = .ok (.invokevirtual 293, 3) := by decide +kernel
theorem dX8_layFront_164 : decode cX8_layFront 164 = .ok (.iinc 4 1, 3) := by decide +kernel
theorem dX8_layFront_167 : decode cX8_layFront 167 = .ok (.goto (-42), 3) := by decide +kernel
theorem dX8_layFront_170 : decode cX8_layFront 170 = .ok (.iinc 2 1, 3) := by decide +kernel
theorem dX8_layFront_173 : decode cX8_layFront 173 = .ok (.goto (-134), 3) := by decide +kernel
theorem dX8_layFront_176 : decode cX8_layFront 176 = .ok (.bipush (-9), 2) := by decide +kernel
theorem dX8_layFront_178 : decode cX8_layFront 178 = .ok (.ireturn, 1) := by decide +kernel
theorem dX8_goOn_0 : decode cX8_goOn 0 = .ok (.aload_n 0, 1) := by decide +kernel
theorem dX8_goOn_1 : decode cX8_goOn 1 = .ok (.iload_n 1, 1) := by decide +kernel
theorem dX8_goOn_2 : decode cX8_goOn 2 = .ok (.iload_n 2, 1) := by decide +kernel
theorem dX8_goOn_3 : decode cX8_goOn 3 = .ok (.invokevirtual 297, 3) := by decide +kernel
theorem dX8_goOn_6 : decode cX8_goOn 6 = .ok (.iconst 0, 1) := by decide +kernel
theorem dX8_goOn_7 : decode cX8_goOn 7 = .ok (.istore_n 3, 1) := by decide +kernel
theorem dX8_goOn_8 : decode cX8_goOn 8 = .ok (.iload_n 3, 1) := by decide +kernel
theorem dX8_goOn_9 : decode cX8_goOn 9 = .ok (.aload_n 0, 1) := by decide +kernel
theorem dX8_goOn_10 : decode cX8_goOn 10 = .ok (.getfield 270, 3) := by decide +kernel
theorem dX8_goOn_13 : decode cX8_goOn 13 = .ok (.if_icmp .ge 65, 3) := by decide +kernel
theorem dX8_goOn_16 : decode cX8_goOn 16 = .ok (.aload_n 0, 1) := by decide +kernel
theorem dX8_goOn_17 : decode cX8_goOn 17 = .ok (.iload_n 3, 1) := by decide +kernel
theorem dX8_goOn_18 : decode cX8_goOn 18 = .ok (.invokevirtual 300, 3) := by decide +kernel
theorem dX8_goOn_21 : decode cX8_goOn 21 = .ok (.aload_n 0, 1) := by decide +kernel
theorem dX8_goOn_22 : decode cX8_goOn 22 = .ok (.iload_n 1, 1) := by decide +kernel
theorem dX8_goOn_23 : decode cX8_goOn 23 = .ok (.invokevirtual 303, 3) := by decide +kernel
theorem dX8_goOn_26 : decode cX8_goOn 26 = .ok (.ifCond .eq 46, 3) := by decide +kernel
theorem dX8_goOn_29 : decode cX8_goOn 29 = .ok (.sipush 1728, 3) := by decide +kernel
theorem dX8_goOn_32 : decode cX8_goOn 32 = .ok (.iload_n 1, 1) := by decide +kernel
theorem dX8_goOn_33 : decode cX8_goOn 33 = .ok (.iconst 1, 1) := by decide +kernel
theorem dX8_goOn_34 : decode cX8_goOn 34 = .ok (.iadd, 1) := by decide +kernel
theorem dX8_goOn_35 : decode cX8_goOn 35 = .ok (.imul, 1) := by decide +kernel
theorem dX8_goOn_36 : decode cX8_goOn 36 = .ok (.aload_n 0, 1) := by decide +kernel
theorem dX8_goOn_37 : decode cX8_goOn 37 = .ok (.getfield 276, 3) := by decide +kernel
theorem dX8_goOn_40 : decode cX8_goOn 40 = .ok (.iadd, 1) := by decide +kernel
theorem dX8_goOn_41 : decode cX8_goOn 41 = .ok (.istore 4, 2) := by decide +kernel
theorem dX8_goOn_43 : decode cX8_goOn 43 = .ok (.aload_n 0, 1) := by decide +kernel
theorem dX8_goOn_44 : decode cX8_goOn 44 = .ok (.getfield 75, 3) := by decide +kernel
theorem dX8_goOn_47 : decode cX8_goOn 47 = .ok (.iload 4, 2) := by decide +kernel
theorem dX8_goOn_49 : decode cX8_goOn 49 = .ok (.aload_n 0, 1) := by decide +kernel
theorem dX8_goOn_50 : decode cX8_goOn 50 = .ok (.getfield 75, 3) := by decide +kernel
theorem dX8_goOn_53 : decode cX8_goOn 53 = .ok (.iload 4, 2) := by decide +kernel
theorem dX8_goOn_55 : decode cX8_goOn 55 = .ok (.laload, 1) := by decide +kernel
theorem dX8_goOn_56 : decode cX8_goOn 56 = .ok (.aload_n 0, 1) := by decide +kernel
theorem dX8_goOn_57 : decode cX8_goOn 57 = .ok (.getfield 75, 3) := by decide +kernel
theorem dX8_goOn_60 : decode cX8_goOn 60 = .ok (.sipush 1728, 3) := by decide +kernel
theorem dX8_goOn_63 : decode cX8_goOn 63 = .ok (.iload_n 1, 1) := by decide +kernel
theorem dX8_goOn_64 : decode cX8_goOn 64 = .ok (.imul, 1) := by decide +kernel
theorem dX8_goOn_65 : decode cX8_goOn 65 = .ok (.iload_n 2, 1) := by decide +kernel
theorem dX8_goOn_66 : decode cX8_goOn 66 = .ok (.iadd, 1) := by decide +kernel
theorem dX8_goOn_67 : decode cX8_goOn 67 = .ok (.laload, 1) := by decide +kernel
theorem dX8_goOn_68 : decode cX8_goOn 68 = .ok (.invokestatic 306, 3) := by decide +kernel
theorem dX8_goOn_71 : decode cX8_goOn 71 = .ok (.lastore, 1) := by decide +kernel
theorem dX8_goOn_72 : decode cX8_goOn 72 = .ok (.iinc 3 1, 3) := by decide +kernel
theorem dX8_goOn_75 : decode cX8_goOn 75 = .ok (.goto (-67), 3) := by decide +kernel
theorem dX8_goOn_78 : decode cX8_goOn 78 = .ok (.return_, 1) := by decide +kernel
theorem dX8_layRest_0 : decode cX8_layRest 0 = .ok (.aload_n 0, 1) := by decide +kernel
theorem dX8_layRest_1 : decode cX8_layRest 1 = .ok (.invokevirtual 286, 3) := by decide +kernel
theorem dX8_layRest_4 : decode cX8_layRest 4 = .ok (.istore_n 1, 1) := by decide +kernel
theorem dX8_layRest_5 : decode cX8_layRest 5 = .ok (.aload_n 0, 1) := by decide +kernel
theorem dX8_layRest_6 : decode cX8_layRest 6 = .ok (.getfield 99, 3) := by decide +kernel
theorem dX8_layRest_9 : decode cX8_layRest 9 = .ok (.istore_n 2, 1) := by decide +kernel
theorem dX8_layRest_10 : decode cX8_layRest 10 = .ok (.iload_n 2, 1) := by decide +kernel
theorem dX8_layRest_11 : decode cX8_layRest 11 = .ok (.ifCond .lt 165, 3) := by decide +kernel
theorem dX8_layRest_14 : decode cX8_layRest 14 = .ok (.iconst 0, 1) := by decide +kernel
theorem dX8_layRest_15 : decode cX8_layRest 15 = .ok (.istore_n 3, 1) := by decide +kernel
theorem dX8_layRest_16 : decode cX8_layRest 16 = .ok (.iload_n 3, 1) := by decide +kernel
theorem dX8_layRest_17 : decode cX8_layRest 17 = .ok (.iload_n 1, 1) := by decide +kernel
theorem dX8_layRest_18 : decode cX8_layRest 18 = .ok (.if_icmp .ge 152, 3) := by decide +kernel
theorem dX8_layRest_21 : decode cX8_layRest 21 = .ok (.sipush 1728, 3) := by decide +kernel
theorem dX8_layRest_24 : decode cX8_layRest 24 = .ok (.iload_n 2, 1) := by decide +kernel
theorem dX8_layRest_25 : decode cX8_layRest 25 = .ok (.imul, 1) := by decide +kernel
theorem dX8_layRest_26 : decode cX8_layRest 26 = .ok (.iload_n 3, 1) := by decide +kernel
theorem dX8_layRest_27 : decode cX8_layRest 27 = .ok (.iadd, 1) := by decide +kernel
theorem dX8_layRest_28 : decode cX8_layRest 28 = .ok (.istore 4, 2) := by decide +kernel
theorem dX8_layRest_30 : decode cX8_layRest 30 = .ok (.aload_n 0, 1) := by decide +kernel
theorem dX8_layRest_31 : decode cX8_layRest 31 = .ok (.getfield 79, 3) := by decide +kernel
theorem dX8_layRest_34 : decode cX8_layRest 34 = .ok (.iload 4, 2) := by decide +kernel
theorem dX8_layRest_36 : decode cX8_layRest 36 = .ok (.iload_n 2, 1) := by decide +kernel
theorem dX8_layRest_37 : decode cX8_layRest 37 = .ok (.aload_n 0, 1) := by decide +kernel
theorem dX8_layRest_38 : decode cX8_layRest 38 = .ok (.getfield 99, 3) := by decide +kernel
theorem dX8_layRest_41 : decode cX8_layRest 41 = .ok (.if_icmp .ne 19, 3) := by decide +kernel
theorem dX8_layRest_44 : decode cX8_layRest 44 = .ok (.aload_n 0, 1) := by decide +kernel
theorem dX8_layRest_45 : decode cX8_layRest 45 = .ok (.getfield 75, 3) := by decide +kernel
theorem dX8_layRest_48 : decode cX8_layRest 48 = .ok (.iload 4, 2) := by decide +kernel
theorem dX8_layRest_50 : decode cX8_layRest 50 = .ok (.laload, 1) := by decide +kernel
theorem dX8_layRest_51 : decode cX8_layRest 51 = .ok (.lconst 0, 1) := by decide +kernel
theorem dX8_layRest_52 : decode cX8_layRest 52 = .ok (.lcmp, 1) := by decide +kernel
theorem dX8_layRest_53 : decode cX8_layRest 53 = .ok (.ifCond .le 7, 3) := by decide +kernel
theorem dX8_layRest_56 : decode cX8_layRest 56 = .ok (.lconst 1, 1) := by decide +kernel
theorem dX8_layRest_57 : decode cX8_layRest 57 = .ok (.goto 4, 3) := by decide +kernel
theorem dX8_layRest_60 : decode cX8_layRest 60 = .ok (.lconst 0, 1) := by decide +kernel
theorem dX8_layRest_61 : decode cX8_layRest 61 = .ok (.lastore, 1) := by decide +kernel
theorem dX8_layRest_62 : decode cX8_layRest 62 = .ok (.iload_n 2, 1) := by decide +kernel
theorem dX8_layRest_63 : decode cX8_layRest 63 = .ok (.aload_n 0, 1) := by decide +kernel
theorem dX8_layRest_64 : decode cX8_layRest 64 = .ok (.getfield 99, 3) := by decide +kernel
theorem dX8_layRest_67 : decode cX8_layRest 67 = .ok (.if_icmp .ge 97, 3) := by decide +kernel
theorem dX8_layRest_70 : decode cX8_layRest 70 = .ok (.aload_n 0, 1) := by decide +kernel
theorem dX8_layRest_71 : decode cX8_layRest 71 = .ok (.getfield 75, 3) := by decide +kernel
theorem dX8_layRest_74 : decode cX8_layRest 74 = .ok (.iload 4, 2) := by decide +kernel
theorem dX8_layRest_76 : decode cX8_layRest 76 = .ok (.laload, 1) := by decide +kernel
theorem dX8_layRest_77 : decode cX8_layRest 77 = .ok (.lconst 0, 1) := by decide +kernel
theorem dX8_layRest_78 : decode cX8_layRest 78 = .ok (.lcmp, 1) := by decide +kernel
theorem dX8_layRest_79 : decode cX8_layRest 79 = .ok (.ifCond .le 85, 3) := by decide +kernel
theorem dX8_layRest_82 : decode cX8_layRest 82 = .ok (.aload_n 0, 1) := by decide +kernel
theorem dX8_layRest_83 : decode cX8_layRest 83 = .ok (.iload_n 2, 1) := by decide +kernel
theorem dX8_layRest_84 : decode cX8_layRest 84 = .ok (.iload_n 3, 1) := by decide +kernel
theorem dX8_layRest_85 : decode cX8_layRest 85 = .ok (.invokevirtual 297, 3) := by decide +kernel
theorem dX8_layRest_88 : decode cX8_layRest 88 = .ok (.iconst 0, 1) := by decide +kernel
theorem dX8_layRest_89 : decode cX8_layRest 89 = .ok (.istore 5, 2) := by decide +kernel
theorem dX8_layRest_91 : decode cX8_layRest 91 = .ok (.iload 5, 2) := by decide +kernel
theorem dX8_layRest_93 : decode cX8_layRest 93 = .ok (.aload_n 0, 1) := by decide +kernel
theorem dX8_layRest_94 : decode cX8_layRest 94 = .ok (.getfield 270, 3) := by decide +kernel
theorem dX8_layRest_97 : decode cX8_layRest 97 = .ok (.if_icmp .ge 67, 3) := by decide +kernel
theorem dX8_layRest_100 : decode cX8_layRest 100 = .ok (.aload_n 0, 1) := by decide +kernel
theorem dX8_layRest_101 : decode cX8_layRest 101 = .ok (.iload 5, 2) := by decide +kernel
theorem dX8_layRest_103 : decode cX8_layRest 103 = .ok (.invokevirtual 300, 3) := by decide +kernel
theorem dX8_layRest_106 : decode cX8_layRest 106 = .ok (.aload_n 0, 1) := by decide +kernel
theorem dX8_layRest_107 : decode cX8_layRest 107 = .ok (.getfield 79, 3) := by decide +kernel
theorem dX8_layRest_110 : decode cX8_layRest 110 = .ok (.iload 4, 2) := by decide +kernel
theorem dX8_layRest_112 : decode cX8_layRest 112 = .ok (.aload_n 0, 1) := by decide +kernel
theorem dX8_layRest_113 : decode cX8_layRest 113 = .ok (.iload_n 2, 1) := by decide +kernel
theorem dX8_layRest_114 : decode cX8_layRest 114 = .ok (.invokevirtual 303, 3) := by decide +kernel
theorem dX8_layRest_117 : decode cX8_layRest 117 = .ok (.ifCond .eq 33, 3) := by decide +kernel
theorem dX8_layRest_120 : decode cX8_layRest 120 = .ok (.aload_n 0, 1) := by decide +kernel
theorem dX8_layRest_121 : decode cX8_layRest 121 = .ok (.getfield 79, 3) := by decide +kernel
theorem dX8_layRest_124 : decode cX8_layRest 124 = .ok (.iload 4, 2) := by decide +kernel
theorem dX8_layRest_126 : decode cX8_layRest 126 = .ok (.laload, 1) := by decide +kernel
theorem dX8_layRest_127 : decode cX8_layRest 127 = .ok (.aload_n 0, 1) := by decide +kernel
theorem dX8_layRest_128 : decode cX8_layRest 128 = .ok (.getfield 79, 3) := by decide +kernel
theorem dX8_layRest_131 : decode cX8_layRest 131 = .ok (.sipush 1728, 3) := by decide +kernel
theorem dX8_layRest_134 : decode cX8_layRest 134 = .ok (.iload_n 2, 1) := by decide +kernel
theorem dX8_layRest_135 : decode cX8_layRest 135 = .ok (.iconst 1, 1) := by decide +kernel
theorem dX8_layRest_136 : decode cX8_layRest 136 = .ok (.iadd, 1) := by decide +kernel
theorem dX8_layRest_137 : decode cX8_layRest 137 = .ok (.imul, 1) := by decide +kernel
theorem dX8_layRest_138 : decode cX8_layRest 138 = .ok (.aload_n 0, 1) := by decide +kernel
theorem dX8_layRest_139 : decode cX8_layRest 139 = .ok (.getfield 276, 3) := by decide +kernel
theorem dX8_layRest_142 : decode cX8_layRest 142 = .ok (.iadd, 1) := by decide +kernel
theorem dX8_layRest_143 : decode cX8_layRest 143 = .ok (.laload, 1) := by decide +kernel
theorem dX8_layRest_144 : decode cX8_layRest 144 = .ok (.invokestatic 306, 3) := by decide +kernel
theorem dX8_layRest_147 : decode cX8_layRest 147 = .ok (.goto 10, 3) := by decide +kernel
theorem dX8_layRest_150 : decode cX8_layRest 150 = .ok (.aload_n 0, 1) := by decide +kernel
theorem dX8_layRest_151 : decode cX8_layRest 151 = .ok (.getfield 79, 3) := by decide +kernel
theorem dX8_layRest_154 : decode cX8_layRest 154 = .ok (.iload 4, 2) := by decide +kernel
theorem dX8_layRest_156 : decode cX8_layRest 156 = .ok (.laload, 1) := by decide +kernel
theorem dX8_layRest_157 : decode cX8_layRest 157 = .ok (.lastore, 1) := by decide +kernel
theorem dX8_layRest_158 : decode cX8_layRest 158 = .ok (.iinc 5 1, 3) := by decide +kernel
theorem dX8_layRest_161 : decode cX8_layRest 161 = .ok (.goto (-70), 3) := by decide +kernel
theorem dX8_layRest_164 : decode cX8_layRest 164 = .ok (.iinc 3 1, 3) := by decide +kernel
theorem dX8_layRest_167 : decode cX8_layRest 167 = .ok (.goto (-151), 3) := by decide +kernel
theorem dX8_layRest_170 : decode cX8_layRest 170 = .ok (.iinc 2 (-1), 3) := by decide +kernel
theorem dX8_layRest_173 : decode cX8_layRest 173 = .ok (.goto (-163), 3) := by decide +kernel
theorem dX8_layRest_176 : decode cX8_layRest 176 = .ok (.return_, 1) := by decide +kernel
theorem dX8_isAlive_0 : decode cX8_isAlive 0 = .ok (.aload_n 0, 1) := by decide +kernel
theorem dX8_isAlive_1 : decode cX8_isAlive 1 = .ok (.getfield 75, 3) := by decide +kernel
theorem dX8_isAlive_4 : decode cX8_isAlive 4 = .ok (.sipush 1728, 3) := by decide +kernel
theorem dX8_isAlive_7 : decode cX8_isAlive 7 = .ok (.iload_n 1, 1) := by decide +kernel
theorem dX8_isAlive_8 : decode cX8_isAlive 8 = .ok (.imul, 1) := by decide +kernel
theorem dX8_isAlive_9 : decode cX8_isAlive 9 = .ok (.iload_n 2, 1) := by decide +kernel
theorem dX8_isAlive_10 : decode cX8_isAlive 10 = .ok (.iadd, 1) := by decide +kernel
theorem dX8_isAlive_11 : decode cX8_isAlive 11 = .ok (.laload, 1) := by decide +kernel
theorem dX8_isAlive_12 : decode cX8_isAlive 12 = .ok (.lconst 0, 1) := by decide +kernel
theorem dX8_isAlive_13 : decode cX8_isAlive 13 = .ok (.lcmp, 1) := by decide +kernel
theorem dX8_isAlive_14 : decode cX8_isAlive 14 = .ok (.ifCond .le 24, 3) := by decide +kernel
theorem dX8_isAlive_17 : decode cX8_isAlive 17 = .ok (.aload_n 0, 1) := by decide +kernel
theorem dX8_isAlive_18 : decode cX8_isAlive 18 = .ok (.getfield 79, 3) := by decide +kernel
theorem dX8_isAlive_21 : decode cX8_isAlive 21 = .ok (.sipush 1728, 3) := by decide +kernel
theorem dX8_isAlive_24 : decode cX8_isAlive 24 = .ok (.iload_n 1, 1) := by decide +kernel
theorem dX8_isAlive_25 : decode cX8_isAlive 25 = .ok (.imul, 1) := by decide +kernel
theorem dX8_isAlive_26 : decode cX8_isAlive 26 = .ok (.iload_n 2, 1) := by decide +kernel
theorem dX8_isAlive_27 : decode cX8_isAlive 27 = .ok (.iadd, 1) := by decide +kernel
theorem dX8_isAlive_28 : decode cX8_isAlive 28 = .ok (.laload, 1) := by decide +kernel
theorem dX8_isAlive_29 : decode cX8_isAlive 29 = .ok (.lconst 0, 1) := by decide +kernel
theorem dX8_isAlive_30 : decode cX8_isAlive 30 = .ok (.lcmp, 1) := by decide +kernel
theorem dX8_isAlive_31 : decode cX8_isAlive 31 = .ok (.ifCond .le 7, 3) := by decide +kernel
theorem dX8_isAlive_34 : decode cX8_isAlive 34 = .ok (.iconst 1, 1) := by decide +kernel
theorem dX8_isAlive_35 : decode cX8_isAlive 35 = .ok (.goto 4, 3) := by decide +kernel
theorem dX8_isAlive_38 : decode cX8_isAlive 38 = .ok (.iconst 0, 1) := by decide +kernel
theorem dX8_isAlive_39 : decode cX8_isAlive 39 = .ok (.ireturn, 1) := by decide +kernel
theorem dX8_layAll_0 : decode cX8_layAll 0 = .ok (.aload_n 0, 1) := by decide +kernel
theorem dX8_layAll_1 : decode cX8_layAll 1 = .ok (.iconst 0, 1) := by decide +kernel
theorem dX8_layAll_2 : decode cX8_layAll 2 = .ok (.aload_n 0, 1) := by decide +kernel
theorem dX8_layAll_3 : decode cX8_layAll 3 = .ok (.getfield 186, 3) := by decide +kernel
theorem dX8_layAll_6 : decode cX8_layAll 6 = .ok (.invokevirtual 310, 3) := by decide +kernel
theorem dX8_layAll_9 : decode cX8_layAll 9 = .ok (.ifCond .eq 12, 3) := by decide +kernel
theorem dX8_layAll_12 : decode cX8_layAll 12 = .ok (.aload_n 0, 1) := by decide +kernel
theorem dX8_layAll_13 : decode cX8_layAll 13 = .ok (.invokevirtual 313, 3) := by decide +kernel
theorem dX8_layAll_16 : decode cX8_layAll 16 = .ok (.bipush (-9), 2) := by decide +kernel
theorem dX8_layAll_18 : decode cX8_layAll 18 = .ok (.if_icmp .eq 5, 3) := by decide +kernel
theorem dX8_layAll_21 : decode cX8_layAll 21 = .ok (.iconst 0, 1) := by decide +kernel
theorem dX8_layAll_22 : decode cX8_layAll 22 = .ok (.ireturn, 1) := by decide +kernel
theorem dX8_layAll_23 : decode cX8_layAll 23 = .ok (.aload_n 0, 1) := by decide +kernel
theorem dX8_layAll_24 : decode cX8_layAll 24 = .ok (.invokevirtual 316, 3) := by decide +kernel
theorem dX8_layAll_27 : decode cX8_layAll 27 = .ok (.iconst 1, 1) := by decide +kernel
theorem dX8_layAll_28 : decode cX8_layAll 28 = .ok (.ireturn, 1) := by decide +kernel
theorem dX8_could_0 : decode cX8_could 0 = .ok (.aload_n 0, 1) := by decide +kernel
theorem dX8_could_1 : decode cX8_could 1 = .ok (.iconst 0, 1) := by decide +kernel
theorem dX8_could_2 : decode cX8_could 2 = .ok (.aload_n 0, 1) := by decide +kernel
theorem dX8_could_3 : decode cX8_could 3 = .ok (.getfield 186, 3) := by decide +kernel
theorem dX8_could_6 : decode cX8_could 6 = .ok (.invokevirtual 310, 3) := by decide +kernel
theorem dX8_could_9 : decode cX8_could 9 = .ok (.pop, 1) := by decide +kernel
theorem dX8_could_10 : decode cX8_could 10 = .ok (.aload_n 0, 1) := by decide +kernel
theorem dX8_could_11 : decode cX8_could 11 = .ok (.invokevirtual 313, 3) := by decide +kernel
theorem dX8_could_14 : decode cX8_could 14 = .ok (.istore_n 1, 1) := by decide +kernel
theorem dX8_could_15 : decode cX8_could 15 = .ok (.iload_n 1, 1) := by decide +kernel
theorem dX8_could_16 : decode cX8_could 16 = .ok (.bipush (-9), 2) := by decide +kernel
theorem dX8_could_18 : decode cX8_could 18 = .ok (.if_icmp .ne 7, 3) := by decide +kernel
theorem dX8_could_21 : decode cX8_could 21 = .ok (.iconst 1, 1) := by decide +kernel
theorem dX8_could_22 : decode cX8_could 22 = .ok (.goto 9, 3) := by decide +kernel
theorem dX8_could_25 : decode cX8_could 25 = .ok (.aload_n 0, 1) := by decide +kernel
theorem dX8_could_26 : decode cX8_could 26 = .ok (.iload_n 1, 1) := by decide +kernel
theorem dX8_could_27 : decode cX8_could 27 = .ok (.iconst 0, 1) := by decide +kernel
theorem dX8_could_28 : decode cX8_could 28 = .ok (.invokevirtual 130, 3) := by decide +kernel
theorem dX8_could_31 : decode cX8_could 31 = .ok (.ireturn, 1) := by decide +kernel
theorem dX8_fewest_0 : decode cX8_fewest 0 = .ok (.iconst 0, 1) := by decide +kernel
theorem dX8_fewest_1 : decode cX8_fewest 1 = .ok (.istore_n 1, 1) := by decide +kernel
theorem dX8_fewest_2 : decode cX8_fewest 2 = .ok (.iload_n 1, 1) := by decide +kernel
theorem dX8_fewest_3 : decode cX8_fewest 3 = .ok (.aload_n 0, 1) := by decide +kernel
theorem dX8_fewest_4 : decode cX8_fewest 4 = .ok (.getfield 186, 3) := by decide +kernel
theorem dX8_fewest_7 : decode cX8_fewest 7 = .ok (.if_icmp .gt 29, 3) := by decide +kernel
theorem dX8_fewest_10 : decode cX8_fewest 10 = .ok (.aload_n 0, 1) := by decide +kernel
theorem dX8_fewest_11 : decode cX8_fewest 11 = .ok (.iconst 0, 1) := by decide +kernel
theorem dX8_fewest_12 : decode cX8_fewest 12 = .ok (.iload_n 1, 1) := by decide +kernel
theorem dX8_fewest_13 : decode cX8_fewest 13 = .ok (.invokevirtual 310, 3) := by decide +kernel
theorem dX8_fewest_16 : decode cX8_fewest 16 = .ok (.ifCond .eq 14, 3) := by decide +kernel
theorem dX8_fewest_19 : decode cX8_fewest 19 = .ok (.aload_n 0, 1) := by decide +kernel
theorem dX8_fewest_20 : decode cX8_fewest 20 = .ok (.invokevirtual 313, 3) := by decide +kernel
theorem dX8_fewest_23 : decode cX8_fewest 23 = .ok (.bipush (-9), 2) := by decide +kernel
theorem dX8_fewest_25 : decode cX8_fewest 25 = .ok (.if_icmp .ne 5, 3) := by decide +kernel
theorem dX8_fewest_28 : decode cX8_fewest 28 = .ok (.iload_n 1, 1) := by decide +kernel
theorem dX8_fewest_29 : decode cX8_fewest 29 = .ok (.ireturn, 1) := by decide +kernel
theorem dX8_fewest_30 : decode cX8_fewest 30 = .ok (.iinc 1 1, 3) := by decide +kernel
theorem dX8_fewest_33 : decode cX8_fewest 33 = .ok (.goto (-31), 3) := by decide +kernel
theorem dX8_fewest_36 : decode cX8_fewest 36 = .ok (.bipush (-9), 2) := by decide +kernel
theorem dX8_fewest_38 : decode cX8_fewest 38 = .ok (.ireturn, 1) := by decide +kernel
theorem dX8_allWays_0 : decode cX8_allWays 0 = .ok (.lconst 0, 1) := by decide +kernel
theorem dX8_allWays_1 : decode cX8_allWays 1 = .ok (.lstore_n 1, 1) := by decide +kernel
theorem dX8_allWays_2 : decode cX8_allWays 2 = .ok (.iconst 0, 1) := by decide +kernel
theorem dX8_allWays_3 : decode cX8_allWays 3 = .ok (.istore_n 3, 1) := by decide +kernel
theorem dX8_allWays_4 : decode cX8_allWays 4 = .ok (.iload_n 3, 1) := by decide +kernel
theorem dX8_allWays_5 : decode cX8_allWays 5 = .ok (.aload_n 0, 1) := by decide +kernel
theorem dX8_allWays_6 : decode cX8_allWays 6 = .ok (.invokevirtual 286, 3) := by decide +kernel
theorem dX8_allWays_9 : decode cX8_allWays 9 = .ok (.if_icmp .ge 29, 3) := by decide +kernel
theorem dX8_allWays_12 : decode cX8_allWays 12 = .ok (.lload_n 1, 1) := by decide +kernel
theorem dX8_allWays_13 : decode cX8_allWays 13 = .ok (.aload_n 0, 1) := by decide +kernel
theorem dX8_allWays_14 : decode cX8_allWays 14 = .ok (.getfield 75, 3) := by decide +kernel
theorem dX8_allWays_17 : decode cX8_allWays 17 = .ok (.sipush 1728, 3) := by decide +kernel
theorem dX8_allWays_20 : decode cX8_allWays 20 = .ok (.aload_n 0, 1) := by decide +kernel
theorem dX8_allWays_21 : decode cX8_allWays 21 = .ok (.getfield 99, 3) := by decide +kernel
theorem dX8_allWays_24 : decode cX8_allWays 24 = .ok (.imul, 1) := by decide +kernel
theorem dX8_allWays_25 : decode cX8_allWays 25 = .ok (.iload_n 3, 1) := by decide +kernel
theorem dX8_allWays_26 : decode cX8_allWays 26 = .ok (.iadd, 1) := by decide +kernel
theorem dX8_allWays_27 : decode cX8_allWays 27 = .ok (.laload, 1) := by decide +kernel
theorem dX8_allWays_28 : decode cX8_allWays 28 = .ok (.invokestatic 306, 3) := by decide +kernel
theorem dX8_allWays_31 : decode cX8_allWays 31 = .ok (.lstore_n 1, 1) := by decide +kernel
theorem dX8_allWays_32 : decode cX8_allWays 32 = .ok (.iinc 3 1, 3) := by decide +kernel
theorem dX8_allWays_35 : decode cX8_allWays 35 = .ok (.goto (-31), 3) := by decide +kernel
theorem dX8_allWays_38 : decode cX8_allWays 38 = .ok (.lload_n 1, 1) := by decide +kernel
theorem dX8_allWays_39 : decode cX8_allWays 39 = .ok (.lreturn, 1) := by decide +kernel
theorem dX8_waysTold_0 : decode cX8_waysTold 0 = .ok (.aload_n 0, 1) := by decide +kernel
theorem dX8_waysTold_1 : decode cX8_waysTold 1 = .ok (.lload_n 1, 1) := by decide +kernel
theorem dX8_waysTold_2 : decode cX8_waysTold 2 = .ok (.putfield 112, 3) := by decide +kernel
theorem dX8_waysTold_5 : decode cX8_waysTold 5 = .ok (.iload_n 3, 1) := by decide +kernel
theorem dX8_waysTold_6 : decode cX8_waysTold 6 = .ok (.ireturn, 1) := by decide +kernel
theorem dX8_ways_0 : decode cX8_ways 0 = .ok (.aload_n 0, 1) := by decide +kernel
theorem dX8_ways_1 : decode cX8_ways 1 = .ok (.iconst 0, 1) := by decide +kernel
theorem dX8_ways_2 : decode cX8_ways 2 = .ok (.aload_n 0, 1) := by decide +kernel
theorem dX8_ways_3 : decode cX8_ways 3 = .ok (.getfield 186, 3) := by decide +kernel
theorem dX8_ways_6 : decode cX8_ways 6 = .ok (.invokevirtual 310, 3) := by decide +kernel
theorem dX8_ways_9 : decode cX8_ways 9 = .ok (.pop, 1) := by decide +kernel
theorem dX8_ways_10 : decode cX8_ways 10 = .ok (.aload_n 0, 1) := by decide +kernel
theorem dX8_ways_11 : decode cX8_ways 11 = .ok (.invokevirtual 313, 3) := by decide +kernel
theorem dX8_ways_14 : decode cX8_ways 14 = .ok (.bipush (-9), 2) := by decide +kernel
theorem dX8_ways_16 : decode cX8_ways 16 = .ok (.if_icmp .eq 10, 3) := by decide +kernel
theorem dX8_ways_19 : decode cX8_ways 19 = .ok (.aload_n 0, 1) := by decide +kernel
theorem dX8_ways_20 : decode cX8_ways 20 = .ok (.lconst 0, 1) := by decide +kernel
theorem dX8_ways_21 : decode cX8_ways 21 = .ok (.iconst 0, 1) := by decide +kernel
theorem dX8_ways_22 : decode cX8_ways 22 = .ok (.invokevirtual 319, 3) := by decide +kernel
theorem dX8_ways_25 : decode cX8_ways 25 = .ok (.ireturn, 1) := by decide +kernel
theorem dX8_ways_26 : decode cX8_ways 26 = .ok (.aload_n 0, 1) := by decide +kernel
theorem dX8_ways_27 : decode cX8_ways 27 = .ok (.invokevirtual 323, 3) := by decide +kernel
theorem dX8_ways_30 : decode cX8_ways 30 = .ok (.lstore_n 1, 1) := by decide +kernel
theorem dX8_ways_31 : decode cX8_ways 31 = .ok (.lload_n 1, 1) := by decide +kernel
theorem dX8_ways_32 : decode cX8_ways 32 = .ok (.ldc2_w 282, 3) := by decide +kernel
theorem dX8_ways_35 : decode cX8_ways 35 = .ok (.lcmp, 1) := by decide +kernel
theorem dX8_ways_36 : decode cX8_ways 36 = .ok (.ifCond .le 8, 3) := by decide +kernel
theorem dX8_ways_39 : decode cX8_ways 39 = .ok (.bipush (-6), 2) := by decide +kernel
theorem dX8_ways_41 : decode cX8_ways 41 = .ok (.goto 9, 3) := by decide +kernel
theorem dX8_ways_44 : decode cX8_ways 44 = .ok (.aload_n 0, 1) := by decide +kernel
theorem dX8_ways_45 : decode cX8_ways 45 = .ok (.lload_n 1, 1) := by decide +kernel
theorem dX8_ways_46 : decode cX8_ways 46 = .ok (.iconst 1, 1) := by decide +kernel
theorem dX8_ways_47 : decode cX8_ways 47 = .ok (.invokevirtual 319, 3) := by decide +kernel
theorem dX8_ways_50 : decode cX8_ways 50 = .ok (.ireturn, 1) := by decide +kernel
theorem dX8_isMinute_0 : decode cX8_isMinute 0 = .ok (.iload_n 1, 1) := by decide +kernel
theorem dX8_isMinute_1 : decode cX8_isMinute 1 = .ok (.iconst 0, 1) := by decide +kernel
theorem dX8_isMinute_2 : decode cX8_isMinute 2 = .ok (.aload_n 0, 1) := by decide +kernel
theorem dX8_isMinute_3 : decode cX8_isMinute 3 = .ok (.getfield 99, 3) := by decide +kernel
theorem dX8_isMinute_6 : decode cX8_isMinute 6 = .ok (.invokestatic 105, 3) := by decide +kernel
theorem dX8_isMinute_9 : decode cX8_isMinute 9 = .ok (.ireturn, 1) := by decide +kernel
theorem dX8_manyIn_0 : decode cX8_manyIn 0 = .ok (.iconst 0, 1) := by decide +kernel
theorem dX8_manyIn_1 : decode cX8_manyIn 1 = .ok (.istore_n 3, 1) := by decide +kernel
theorem dX8_manyIn_2 : decode cX8_manyIn 2 = .ok (.iconst 0, 1) := by decide +kernel
theorem dX8_manyIn_3 : decode cX8_manyIn 3 = .ok (.istore 4, 2) := by decide +kernel
theorem dX8_manyIn_5 : decode cX8_manyIn 5 = .ok (.iload 4, 2) := by decide +kernel
theorem dX8_manyIn_7 : decode cX8_manyIn 7 = .ok (.aload_n 0, 1) := by decide +kernel
theorem dX8_manyIn_8 : decode cX8_manyIn 8 = .ok (.getfield 240, 3) := by decide +kernel
theorem dX8_manyIn_11 : decode cX8_manyIn 11 = .ok (.if_icmp .ge 28, 3) := by decide +kernel
theorem dX8_manyIn_14 : decode cX8_manyIn 14 = .ok (.iload_n 3, 1) := by decide +kernel
theorem dX8_manyIn_15 : decode cX8_manyIn 15 = .ok (.aload_n 0, 1) := by decide +kernel
theorem dX8_manyIn_16 : decode cX8_manyIn 16 = .ok (.iload_n 1, 1) := by decide +kernel
theorem dX8_manyIn_17 : decode cX8_manyIn 17 = .ok (.iload 4, 2) := by decide +kernel
theorem dX8_manyIn_19 : decode cX8_manyIn 19 = .ok (.invokevirtual 261, 3) := by decide +kernel
theorem dX8_manyIn_22 : decode cX8_manyIn 22 = .ok (.iload_n 2, 1) := by decide +kernel
theorem dX8_manyIn_23 : decode cX8_manyIn 23 = .ok (.if_icmp .ne 7, 3) := by decide +kernel
theorem dX8_manyIn_26 : decode cX8_manyIn 26 = .ok (.iconst 1, 1) := by decide +kernel
theorem dX8_manyIn_27 : decode cX8_manyIn 27 = .ok (.goto 4, 3) := by decide +kernel
theorem dX8_manyIn_30 : decode cX8_manyIn 30 = .ok (.iconst 0, 1) := by decide +kernel
theorem dX8_manyIn_31 : decode cX8_manyIn 31 = .ok (.iadd, 1) := by decide +kernel
theorem dX8_manyIn_32 : decode cX8_manyIn 32 = .ok (.istore_n 3, 1) := by decide +kernel
theorem dX8_manyIn_33 : decode cX8_manyIn 33 = .ok (.iinc 4 1, 3) := by decide +kernel
theorem dX8_manyIn_36 : decode cX8_manyIn 36 = .ok (.goto (-31), 3) := by decide +kernel
theorem dX8_manyIn_39 : decode cX8_manyIn 39 = .ok (.iload_n 3, 1) := by decide +kernel
theorem dX8_manyIn_40 : decode cX8_manyIn 40 = .ok (.ireturn, 1) := by decide +kernel
theorem dX8_layIn_0 : decode cX8_layIn 0 = .ok (.aload_n 0, 1) := by decide +kernel
theorem dX8_layIn_1 : decode cX8_layIn 1 = .ok (.iconst 4, 1) := by decide +kernel
theorem dX8_layIn_2 : decode cX8_layIn 2 = .ok (.putfield 327, 3) := by decide +kernel
theorem dX8_layIn_5 : decode cX8_layIn 5 = .ok (.aload_n 0, 1) := by decide +kernel
theorem dX8_layIn_6 : decode cX8_layIn 6 = .ok (.iconst 0, 1) := by decide +kernel
theorem dX8_layIn_7 : decode cX8_layIn 7 = .ok (.putfield 330, 3) := by decide +kernel
theorem dX8_layIn_10 : decode cX8_layIn 10 = .ok (.iconst 0, 1) := by decide +kernel
theorem dX8_layIn_11 : decode cX8_layIn 11 = .ok (.istore_n 3, 1) := by decide +kernel
theorem dX8_layIn_12 : decode cX8_layIn 12 = .ok (.iload_n 3, 1) := by decide +kernel
theorem dX8_layIn_13 : decode cX8_layIn 13 = .ok (.aload_n 0, 1) := by decide +kernel
theorem dX8_layIn_14 : decode cX8_layIn 14 = .ok (.invokevirtual 286, 3) := by decide +kernel
theorem dX8_layIn_17 : decode cX8_layIn 17 = .ok (.if_icmp .ge 70, 3) := by decide +kernel
theorem dX8_layIn_20 : decode cX8_layIn 20 = .ok (.aload_n 0, 1) := by decide +kernel
theorem dX8_layIn_21 : decode cX8_layIn 21 = .ok (.iload_n 2, 1) := by decide +kernel
theorem dX8_layIn_22 : decode cX8_layIn 22 = .ok (.iload_n 3, 1) := by decide +kernel
theorem dX8_layIn_23 : decode cX8_layIn 23 = .ok (.invokevirtual 333, 3) := by decide +kernel
theorem dX8_layIn_26 : decode cX8_layIn 26 = .ok (.ifCond .eq 55, 3) := by decide +kernel
theorem dX8_layIn_29 : decode cX8_layIn 29 = .ok (.aload_n 0, 1) := by decide +kernel
theorem dX8_layIn_30 : decode cX8_layIn 30 = .ok (.iload_n 3, 1) := by decide +kernel
theorem dX8_layIn_31 : decode cX8_layIn 31 = .ok (.iload_n 1, 1) := by decide +kernel
theorem dX8_layIn_32 : decode cX8_layIn 32 = .ok (.invokevirtual 336, 3) := by decide +kernel
theorem dX8_layIn_35 : decode cX8_layIn 35 = .ok (.istore 4, 2) := by decide +kernel
theorem dX8_layIn_37 : decode cX8_layIn 37 = .ok (.aload_n 0, 1) := by decide +kernel
theorem dX8_layIn_38 : decode cX8_layIn 38 = .ok (.iload 4, 2) := by decide +kernel
theorem dX8_layIn_40 : decode cX8_layIn 40 = .ok (.aload_n 0, 1) := by decide +kernel
theorem dX8_layIn_41 : decode cX8_layIn 41 = .ok (.getfield 327, 3) := by decide +kernel
theorem dX8_layIn_44 : decode cX8_layIn 44 = .ok (.if_icmp .ge 8, 3) := by decide +kernel
theorem dX8_layIn_47 : decode cX8_layIn 47 = .ok (.iload 4, 2) := by decide +kernel
theorem dX8_layIn_49 : decode cX8_layIn 49 = .ok (.goto 7, 3) := by decide +kernel
theorem dX8_layIn_52 : decode cX8_layIn 52 = .ok (.aload_n 0, 1) := by decide +kernel
theorem dX8_layIn_53 : decode cX8_layIn 53 = .ok (.getfield 327, 3) := by decide +kernel
theorem dX8_layIn_56 : decode cX8_layIn 56 = .ok (.putfield 327, 3) := by decide +kernel
theorem dX8_layIn_59 : decode cX8_layIn 59 = .ok (.aload_n 0, 1) := by decide +kernel
theorem dX8_layIn_60 : decode cX8_layIn 60 = .ok (.iload 4, 2) := by decide +kernel
theorem dX8_layIn_62 : decode cX8_layIn 62 = .ok (.aload_n 0, 1) := by decide +kernel
theorem dX8_layIn_63 : decode cX8_layIn 63 = .ok (.getfield 330, 3) := by decide +kernel
theorem dX8_layIn_66 : decode cX8_layIn 66 = .ok (.if_icmp .le 8, 3) := by decide +kernel
theorem dX8_layIn_69 : decode cX8_layIn 69 = .ok (.iload 4, 2) := by decide +kernel
theorem dX8_layIn_71 : decode cX8_layIn 71 = .ok (.goto 7, 3) := by decide +kernel
theorem dX8_layIn_74 : decode cX8_layIn 74 = .ok (.aload_n 0, 1) := by decide +kernel
theorem dX8_layIn_75 : decode cX8_layIn 75 = .ok (.getfield 330, 3) := by decide +kernel
theorem dX8_layIn_78 : decode cX8_layIn 78 = .ok (.putfield 330, 3) := by decide +kernel
theorem dX8_layIn_81 : decode cX8_layIn 81 = .ok (.iinc 3 1, 3) := by decide +kernel
theorem dX8_layIn_84 : decode cX8_layIn 84 = .ok (.goto (-72), 3) := by decide +kernel
theorem dX8_layIn_87 : decode cX8_layIn 87 = .ok (.return_, 1) := by decide +kernel
theorem dX8_rooms_0 : decode cX8_rooms 0 = .ok (.aload_n 0, 1) := by decide +kernel
theorem dX8_rooms_1 : decode cX8_rooms 1 = .ok (.iload_n 1, 1) := by decide +kernel
theorem dX8_rooms_2 : decode cX8_rooms 2 = .ok (.invokevirtual 198, 3) := by decide +kernel
theorem dX8_rooms_5 : decode cX8_rooms 5 = .ok (.ifCond .eq 11, 3) := by decide +kernel
theorem dX8_rooms_8 : decode cX8_rooms 8 = .ok (.aload_n 0, 1) := by decide +kernel
theorem dX8_rooms_9 : decode cX8_rooms 9 = .ok (.iload_n 2, 1) := by decide +kernel
theorem dX8_rooms_10 : decode cX8_rooms 10 = .ok (.invokevirtual 339, 3) := by decide +kernel
theorem dX8_rooms_13 : decode cX8_rooms 13 = .ok (.ifCond .ne 5, 3) := by decide +kernel
theorem dX8_rooms_16 : decode cX8_rooms 16 = .ok (.iconst (-1), 1) := by decide +kernel
theorem dX8_rooms_17 : decode cX8_rooms 17 = .ok (.ireturn, 1) := by decide +kernel
theorem dX8_rooms_18 : decode cX8_rooms 18 = .ok (.aload_n 0, 1) := by decide +kernel
theorem dX8_rooms_19 : decode cX8_rooms 19 = .ok (.invokevirtual 342, 3) := by decide +kernel
theorem dX8_rooms_22 : decode cX8_rooms 22 = .ok (.ifCond .ne 9, 3) := by decide +kernel
theorem dX8_rooms_25 : decode cX8_rooms 25 = .ok (.aload_n 0, 1) := by decide +kernel
theorem dX8_rooms_26 : decode cX8_rooms 26 = .ok (.iconst 4, 1) := by decide +kernel
theorem dX8_rooms_27 : decode cX8_rooms 27 = .ok (.invokevirtual 122, 3) := by decide +kernel
theorem dX8_rooms_30 : decode cX8_rooms 30 = .ok (.ireturn, 1) := by decide +kernel
theorem dX8_rooms_31 : decode cX8_rooms 31 = .ok (.aload_n 0, 1) := by decide +kernel
theorem dX8_rooms_32 : decode cX8_rooms 32 = .ok (.iload_n 1, 1) := by decide +kernel
theorem dX8_rooms_33 : decode cX8_rooms 33 = .ok (.iload_n 2, 1) := by decide +kernel
theorem dX8_rooms_34 : decode cX8_rooms 34 = .ok (.invokevirtual 346, 3) := by decide +kernel
theorem dX8_rooms_37 : decode cX8_rooms 37 = .ok (.aload_n 0, 1) := by decide +kernel
theorem dX8_rooms_38 : decode cX8_rooms 38 = .ok (.aload_n 0, 1) := by decide +kernel
theorem dX8_rooms_39 : decode cX8_rooms 39 = .ok (.getfield 330, 3) := by decide +kernel
theorem dX8_rooms_42 : decode cX8_rooms 42 = .ok (.aload_n 0, 1) := by decide +kernel
theorem dX8_rooms_43 : decode cX8_rooms 43 = .ok (.getfield 327, 3) := by decide +kernel
theorem dX8_rooms_46 : decode cX8_rooms 46 = .ok (.invokevirtual 130, 3) := by decide +kernel
theorem dX8_rooms_49 : decode cX8_rooms 49 = .ok (.ireturn, 1) := by decide +kernel
theorem dX8_empty_0 : decode cX8_empty 0 = .ok (.aload_n 0, 1) := by decide +kernel
theorem dX8_empty_1 : decode cX8_empty 1 = .ok (.iload_n 1, 1) := by decide +kernel
theorem dX8_empty_2 : decode cX8_empty 2 = .ok (.invokevirtual 339, 3) := by decide +kernel
theorem dX8_empty_5 : decode cX8_empty 5 = .ok (.ifCond .ne 5, 3) := by decide +kernel
theorem dX8_empty_8 : decode cX8_empty 8 = .ok (.iconst (-1), 1) := by decide +kernel
theorem dX8_empty_9 : decode cX8_empty 9 = .ok (.ireturn, 1) := by decide +kernel
theorem dX8_empty_10 : decode cX8_empty 10 = .ok (.aload_n 0, 1) := by decide +kernel
theorem dX8_empty_11 : decode cX8_empty 11 = .ok (.invokevirtual 342, 3) := by decide +kernel
theorem dX8_empty_14 : decode cX8_empty 14 = .ok (.ifCond .ne 9, 3) := by decide +kernel
theorem dX8_empty_17 : decode cX8_empty 17 = .ok (.aload_n 0, 1) := by decide +kernel
theorem dX8_empty_18 : decode cX8_empty 18 = .ok (.iconst 4, 1) := by decide +kernel
theorem dX8_empty_19 : decode cX8_empty 19 = .ok (.invokevirtual 122, 3) := by decide +kernel
theorem dX8_empty_22 : decode cX8_empty 22 = .ok (.ireturn, 1) := by decide +kernel
theorem dX8_empty_23 : decode cX8_empty 23 = .ok (.iconst 0, 1) := by decide +kernel
theorem dX8_empty_24 : decode cX8_empty 24 = .ok (.istore_n 2, 1) := by decide +kernel
theorem dX8_empty_25 : decode cX8_empty 25 = .ok (.iconst 0, 1) := by decide +kernel
theorem dX8_empty_26 : decode cX8_empty 26 = .ok (.istore_n 3, 1) := by decide +kernel
theorem dX8_empty_27 : decode cX8_empty 27 = .ok (.iconst 0, 1) := by decide +kernel
theorem dX8_empty_28 : decode cX8_empty 28 = .ok (.istore 4, 2) := by decide +kernel
theorem dX8_empty_30 : decode cX8_empty 30 = .ok (.iload 4, 2) := by decide +kernel
theorem dX8_empty_32 : decode cX8_empty 32 = .ok (.aload_n 0, 1) := by decide +kernel
theorem dX8_empty_33 : decode cX8_empty 33 = .ok (.getfield 95, 3) := by decide +kernel
theorem dX8_empty_36 : decode cX8_empty 36 = .ok (.if_icmp .ge 52, 3) := by decide +kernel
theorem dX8_empty_39 : decode cX8_empty 39 = .ok (.aload_n 0, 1) := by decide +kernel
theorem dX8_empty_40 : decode cX8_empty 40 = .ok (.iload 4, 2) := by decide +kernel
theorem dX8_empty_42 : decode cX8_empty 42 = .ok (.iload_n 1, 1) := by decide +kernel
theorem dX8_empty_43 : decode cX8_empty 43 = .ok (.invokevirtual 346, 3) := by decide +kernel
theorem dX8_empty_46 : decode cX8_empty 46 = .ok (.iload_n 2, 1) := by decide +kernel
theorem dX8_empty_47 : decode cX8_empty 47 = .ok (.aload_n 0, 1) := by decide +kernel
theorem dX8_empty_48 : decode cX8_empty 48 = .ok (.getfield 330, 3) := by decide +kernel
theorem dX8_empty_51 : decode cX8_empty 51 = .ok (.ifCond .ne 10, 3) := by decide +kernel
theorem dX8_empty_54 : decode cX8_empty 54 = .ok (.iconst 1, 1) := by decide +kernel
theorem dX8_empty_55 : decode cX8_empty 55 = .ok (.iload 4, 2) := by decide +kernel
theorem dX8_empty_57 : decode cX8_empty 57 = .ok (.ishl, 1) := by decide +kernel
theorem dX8_empty_58 : decode cX8_empty 58 = .ok (.goto 4, 3) := by decide +kernel
theorem dX8_empty_61 : decode cX8_empty 61 = .ok (.iconst 0, 1) := by decide +kernel
theorem dX8_empty_62 : decode cX8_empty 62 = .ok (.ior, 1) := by decide +kernel
theorem dX8_empty_63 : decode cX8_empty 63 = .ok (.istore_n 2, 1) := by decide +kernel
theorem dX8_empty_64 : decode cX8_empty 64 = .ok (.iload_n 3, 1) := by decide +kernel
theorem dX8_empty_65 : decode cX8_empty 65 = .ok (.aload_n 0, 1) := by decide +kernel
theorem dX8_empty_66 : decode cX8_empty 66 = .ok (.getfield 327, 3) := by decide +kernel
theorem dX8_empty_69 : decode cX8_empty 69 = .ok (.ifCond .le 10, 3) := by decide +kernel
theorem dX8_empty_72 : decode cX8_empty 72 = .ok (.iconst 1, 1) := by decide +kernel
theorem dX8_empty_73 : decode cX8_empty 73 = .ok (.iload 4, 2) := by decide +kernel
theorem dX8_empty_75 : decode cX8_empty 75 = .ok (.ishl, 1) := by decide +kernel
theorem dX8_empty_76 : decode cX8_empty 76 = .ok (.goto 4, 3) := by decide +kernel
theorem dX8_empty_79 : decode cX8_empty 79 = .ok (.iconst 0, 1) := by decide +kernel
theorem dX8_empty_80 : decode cX8_empty 80 = .ok (.ior, 1) := by decide +kernel
theorem dX8_empty_81 : decode cX8_empty 81 = .ok (.istore_n 3, 1) := by decide +kernel
theorem dX8_empty_82 : decode cX8_empty 82 = .ok (.iinc 4 1, 3) := by decide +kernel
theorem dX8_empty_85 : decode cX8_empty 85 = .ok (.goto (-55), 3) := by decide +kernel
theorem dX8_empty_88 : decode cX8_empty 88 = .ok (.aload_n 0, 1) := by decide +kernel
theorem dX8_empty_89 : decode cX8_empty 89 = .ok (.iload_n 3, 1) := by decide +kernel
theorem dX8_empty_90 : decode cX8_empty 90 = .ok (.iload_n 2, 1) := by decide +kernel
theorem dX8_empty_91 : decode cX8_empty 91 = .ok (.invokevirtual 130, 3) := by decide +kernel
theorem dX8_empty_94 : decode cX8_empty 94 = .ok (.ireturn, 1) := by decide +kernel
theorem dX8_where_0 : decode cX8_where 0 = .ok (.aload_n 0, 1) := by decide +kernel
theorem dX8_where_1 : decode cX8_where 1 = .ok (.iload_n 1, 1) := by decide +kernel
theorem dX8_where_2 : decode cX8_where 2 = .ok (.invokevirtual 224, 3) := by decide +kernel
theorem dX8_where_5 : decode cX8_where 5 = .ok (.ifCond .eq 11, 3) := by decide +kernel
theorem dX8_where_8 : decode cX8_where 8 = .ok (.aload_n 0, 1) := by decide +kernel
theorem dX8_where_9 : decode cX8_where 9 = .ok (.iload_n 2, 1) := by decide +kernel
theorem dX8_where_10 : decode cX8_where 10 = .ok (.invokevirtual 339, 3) := by decide +kernel
theorem dX8_where_13 : decode cX8_where 13 = .ok (.ifCond .ne 5, 3) := by decide +kernel
theorem dX8_where_16 : decode cX8_where 16 = .ok (.iconst (-1), 1) := by decide +kernel
theorem dX8_where_17 : decode cX8_where 17 = .ok (.ireturn, 1) := by decide +kernel
theorem dX8_where_18 : decode cX8_where 18 = .ok (.aload_n 0, 1) := by decide +kernel
theorem dX8_where_19 : decode cX8_where 19 = .ok (.invokevirtual 342, 3) := by decide +kernel
theorem dX8_where_22 : decode cX8_where 22 = .ok (.ifCond .ne 9, 3) := by decide +kernel
theorem dX8_where_25 : decode cX8_where 25 = .ok (.aload_n 0, 1) := by decide +kernel
theorem dX8_where_26 : decode cX8_where 26 = .ok (.iconst 4, 1) := by decide +kernel
theorem dX8_where_27 : decode cX8_where 27 = .ok (.invokevirtual 122, 3) := by decide +kernel
theorem dX8_where_30 : decode cX8_where 30 = .ok (.ireturn, 1) := by decide +kernel
theorem dX8_where_31 : decode cX8_where 31 = .ok (.iconst 0, 1) := by decide +kernel
theorem dX8_where_32 : decode cX8_where 32 = .ok (.istore_n 3, 1) := by decide +kernel
theorem dX8_where_33 : decode cX8_where 33 = .ok (.iconst 0, 1) := by decide +kernel
theorem dX8_where_34 : decode cX8_where 34 = .ok (.istore 4, 2) := by decide +kernel
theorem dX8_where_36 : decode cX8_where 36 = .ok (.iload 4, 2) := by decide +kernel
theorem dX8_where_38 : decode cX8_where 38 = .ok (.aload_n 0, 1) := by decide +kernel
theorem dX8_where_39 : decode cX8_where 39 = .ok (.invokevirtual 286, 3) := by decide +kernel
theorem dX8_where_42 : decode cX8_where 42 = .ok (.if_icmp .ge 35, 3) := by decide +kernel
theorem dX8_where_45 : decode cX8_where 45 = .ok (.iload_n 3, 1) := by decide +kernel
theorem dX8_where_46 : decode cX8_where 46 = .ok (.aload_n 0, 1) := by decide +kernel
theorem dX8_where_47 : decode cX8_where 47 = .ok (.iload_n 2, 1) := by decide +kernel
theorem dX8_where_48 : decode cX8_where 48 = .ok (.iload 4, 2) := by decide +kernel
theorem dX8_where_50 : decode cX8_where 50 = .ok (.invokevirtual 333, 3) := by decide +kernel
theorem dX8_where_53 : decode cX8_where 53 = .ok (.ifCond .eq 15, 3) := by decide +kernel
theorem dX8_where_56 : decode cX8_where 56 = .ok (.iconst 1, 1) := by decide +kernel
theorem dX8_where_57 : decode cX8_where 57 = .ok (.aload_n 0, 1) := by decide +kernel
theorem dX8_where_58 : decode cX8_where 58 = .ok (.iload 4, 2) := by decide +kernel
theorem dX8_where_60 : decode cX8_where 60 = .ok (.iload_n 1, 1) := by decide +kernel
theorem dX8_where_61 : decode cX8_where 61 = .ok (.invokevirtual 261, 3) := by decide +kernel
theorem dX8_where_64 : decode cX8_where 64 = .ok (.ishl, 1) := by decide +kernel
theorem dX8_where_65 : decode cX8_where 65 = .ok (.goto 4, 3) := by decide +kernel
theorem dX8_where_68 : decode cX8_where 68 = .ok (.iconst 0, 1) := by decide +kernel
theorem dX8_where_69 : decode cX8_where 69 = .ok (.ior, 1) := by decide +kernel
theorem dX8_where_70 : decode cX8_where 70 = .ok (.istore_n 3, 1) := by decide +kernel
theorem dX8_where_71 : decode cX8_where 71 = .ok (.iinc 4 1, 3) := by decide +kernel
theorem dX8_where_74 : decode cX8_where 74 = .ok (.goto (-38), 3) := by decide +kernel
theorem dX8_where_77 : decode cX8_where 77 = .ok (.iload_n 3, 1) := by decide +kernel
theorem dX8_where_78 : decode cX8_where 78 = .ok (.ireturn, 1) := by decide +kernel
theorem dX8_turnValues_0 : decode cX8_turnValues 0 = .ok (.iconst 0, 1) := by decide +kernel
theorem dX8_turnValues_1 : decode cX8_turnValues 1 = .ok (.istore_n 1, 1) := by decide +kernel
theorem dX8_turnValues_2 : decode cX8_turnValues 2 = .ok (.iload_n 1, 1) := by decide +kernel
theorem dX8_turnValues_3 : decode cX8_turnValues 3 = .ok (.aload_n 0, 1) := by decide +kernel
theorem dX8_turnValues_4 : decode cX8_turnValues 4 = .ok (.invokevirtual 286, 3) := by decide +kernel
theorem dX8_turnValues_7 : decode cX8_turnValues 7 = .ok (.if_icmp .ge 28, 3) := by decide +kernel
theorem dX8_turnValues_10 : decode cX8_turnValues 10 = .ok (.aload_n 0, 1) := by decide +kernel
theorem dX8_turnValues_11 : decode cX8_turnValues 11 = .ok (.getfield 82, 3) := by decide +kernel
theorem dX8_turnValues_14 : decode cX8_turnValues 14 = .ok (.iload_n 1, 1) := by decide +kernel
theorem dX8_turnValues_15 : decode cX8_turnValues 15 = .ok (.aload_n 0, 1) := by decide +kernel
theorem dX8_turnValues_16 : decode cX8_turnValues 16 = .ok (.getfield 85, 3) := by decide +kernel
theorem dX8_turnValues_19 : decode cX8_turnValues 19 = .ok (.iload_n 1, 1) := by decide +kernel
theorem dX8_turnValues_20 : decode cX8_turnValues 20 = .ok (.iaload, 1) := by decide +kernel
theorem dX8_turnValues_21 : decode cX8_turnValues 21 = .ok (.iastore, 1) := by decide +kernel
theorem dX8_turnValues_22 : decode cX8_turnValues 22 = .ok (.aload_n 0, 1) := by decide +kernel
theorem dX8_turnValues_23 : decode cX8_turnValues 23 = .ok (.getfield 85, 3) := by decide +kernel
theorem dX8_turnValues_26 : decode cX8_turnValues 26 = .ok (.iload_n 1, 1) := by decide +kernel
theorem dX8_turnValues_27 : decode cX8_turnValues 27 = .ok (.iconst (-1), 1) := by decide +kernel
theorem dX8_turnValues_28 : decode cX8_turnValues 28 = .ok (.iastore, 1) := by decide +kernel
theorem dX8_turnValues_29 : decode cX8_turnValues 29 = .ok (.iinc 1 1, 3) := by decide +kernel
theorem dX8_turnValues_32 : decode cX8_turnValues 32 = .ok (.goto (-30), 3) := by decide +kernel
theorem dX8_turnValues_35 : decode cX8_turnValues 35 = .ok (.return_, 1) := by decide +kernel
theorem dX8_beginValues_0 : decode cX8_beginValues 0 = .ok (.iconst 0, 1) := by decide +kernel
theorem dX8_beginValues_1 : decode cX8_beginValues 1 = .ok (.istore_n 2, 1) := by decide +kernel
theorem dX8_beginValues_2 : decode cX8_beginValues 2 = .ok (.iload_n 2, 1) := by decide +kernel
theorem dX8_beginValues_3 : decode cX8_beginValues 3 = .ok (.aload_n 0, 1) := by decide +kernel
theorem dX8_beginValues_4 : decode cX8_beginValues 4 = .ok (.invokevirtual 286, 3) := by decide +kernel
theorem dX8_beginValues_7 : decode cX8_beginValues 7 = .ok (.if_icmp .ge 36, 3) := by decide +kernel
theorem dX8_beginValues_10 : decode cX8_beginValues 10 = .ok (.aload_n 0, 1) := by decide +kernel
theorem dX8_beginValues_11 : decode cX8_beginValues 11 = .ok (.getfield 82, 3) := by decide +kernel
theorem dX8_beginValues_14 : decode cX8_beginValues 14 = .ok (.iload_n 2, 1) := by decide +kernel
theorem dX8_beginValues_15 : decode cX8_beginValues 15 = .ok (.aload_n 0, 1) := by decide +kernel
theorem dX8_beginValues_16 : decode cX8_beginValues 16 = .ok (.iconst 0, 1) := by decide +kernel
theorem dX8_beginValues_17 : decode cX8_beginValues 17 = .ok (.iload_n 2, 1) := by decide +kernel
theorem dX8_beginValues_18 : decode cX8_beginValues 18 = .ok (.invokevirtual 333, 3) := by decide +kernel
theorem dX8_beginValues_21 : decode cX8_beginValues 21 = .ok (.ifCond .eq 7, 3) := by decide +kernel
theorem dX8_beginValues_24 : decode cX8_beginValues 24 = .ok (.iload_n 1, 1) := by decide +kernel
theorem dX8_beginValues_25 : decode cX8_beginValues 25 = .ok (.goto 4, 3) := by decide +kernel
theorem dX8_beginValues_28 : decode cX8_beginValues 28 = .ok (.iconst (-1), 1) := by decide +kernel
theorem dX8_beginValues_29 : decode cX8_beginValues 29 = .ok (.iastore, 1) := by decide +kernel
theorem dX8_beginValues_30 : decode cX8_beginValues 30 = .ok (.aload_n 0, 1) := by decide +kernel
theorem dX8_beginValues_31 : decode cX8_beginValues 31 = .ok (.getfield 85, 3) := by decide +kernel
theorem dX8_beginValues_34 : decode cX8_beginValues 34 = .ok (.iload_n 2, 1) := by decide +kernel
theorem dX8_beginValues_35 : decode cX8_beginValues 35 = .ok (.iconst (-1), 1) := by decide +kernel
theorem dX8_beginValues_36 : decode cX8_beginValues 36 = .ok (.iastore, 1) := by decide +kernel
theorem dX8_beginValues_37 : decode cX8_beginValues 37 = .ok (.iinc 2 1, 3) := by decide +kernel
theorem dX8_beginValues_40 : decode cX8_beginValues 40 = .ok (.goto (-38), 3) := by decide +kernel
theorem dX8_beginValues_43 : decode cX8_beginValues 43 = .ok (.return_, 1) := by decide +kernel
theorem dX8_anyValue_0 : decode cX8_anyValue 0 = .ok (.iconst 0, 1) := by decide +kernel
theorem dX8_anyValue_1 : decode cX8_anyValue 1 = .ok (.istore_n 1, 1) := by decide +kernel
theorem dX8_anyValue_2 : decode cX8_anyValue 2 = .ok (.iconst 0, 1) := by decide +kernel
theorem dX8_anyValue_3 : decode cX8_anyValue 3 = .ok (.istore_n 2, 1) := by decide +kernel
theorem dX8_anyValue_4 : decode cX8_anyValue 4 = .ok (.iload_n 2, 1) := by decide +kernel
theorem dX8_anyValue_5 : decode cX8_anyValue 5 = .ok (.aload_n 0, 1) := by decide +kernel
theorem dX8_anyValue_6 : decode cX8_anyValue 6 = .ok (.invokevirtual 286, 3) := by decide +kernel
theorem dX8_anyValue_9 : decode cX8_anyValue 9 = .ok (.if_icmp .ge 28, 3) := by decide +kernel
theorem dX8_anyValue_12 : decode cX8_anyValue 12 = .ok (.iload_n 1, 1) := by decide +kernel
theorem dX8_anyValue_13 : decode cX8_anyValue 13 = .ok (.ifCond .ne 12, 3) := by decide +kernel
theorem dX8_anyValue_16 : decode cX8_anyValue 16 = .ok (.aload_n 0, 1) := by decide +kernel
theorem dX8_anyValue_17 : decode cX8_anyValue 17 = .ok (.getfield 82, 3) := by decide +kernel
theorem dX8_anyValue_20 : decode cX8_anyValue 20 = .ok (.iload_n 2, 1) := by decide +kernel
theorem dX8_anyValue_21 : decode cX8_anyValue 21 = .ok (.iaload, 1) := by decide +kernel
theorem dX8_anyValue_22 : decode cX8_anyValue 22 = .ok (.ifCond .lt 7, 3) := by decide +kernel
theorem dX8_anyValue_25 : decode cX8_anyValue 25 = .ok (.iconst 1, 1) := by decide +kernel
theorem dX8_anyValue_26 : decode cX8_anyValue 26 = .ok (.goto 4, 3) := by decide +kernel
theorem dX8_anyValue_29 : decode cX8_anyValue 29 = .ok (.iconst 0, 1) := by decide +kernel
theorem dX8_anyValue_30 : decode cX8_anyValue 30 = .ok (.istore_n 1, 1) := by decide +kernel
theorem dX8_anyValue_31 : decode cX8_anyValue 31 = .ok (.iinc 2 1, 3) := by decide +kernel
theorem dX8_anyValue_34 : decode cX8_anyValue 34 = .ok (.goto (-30), 3) := by decide +kernel
theorem dX8_anyValue_37 : decode cX8_anyValue 37 = .ok (.iload_n 1, 1) := by decide +kernel
theorem dX8_anyValue_38 : decode cX8_anyValue 38 = .ok (.ireturn, 1) := by decide +kernel
theorem dX8_areIn_0 : decode cX8_areIn 0 = .ok (.aload_n 0, 1) := by decide +kernel
theorem dX8_areIn_1 : decode cX8_areIn 1 = .ok (.iload_n 1, 1) := by decide +kernel
theorem dX8_areIn_2 : decode cX8_areIn 2 = .ok (.iload_n 2, 1) := by decide +kernel
theorem dX8_areIn_3 : decode cX8_areIn 3 = .ok (.invokevirtual 261, 3) := by decide +kernel
theorem dX8_areIn_6 : decode cX8_areIn 6 = .ok (.aload_n 0, 1) := by decide +kernel
theorem dX8_areIn_7 : decode cX8_areIn 7 = .ok (.iload_n 1, 1) := by decide +kernel
theorem dX8_areIn_8 : decode cX8_areIn 8 = .ok (.iload_n 3, 1) := by decide +kernel
theorem dX8_areIn_9 : decode cX8_areIn 9 = .ok (.invokevirtual 261, 3) := by decide +kernel
theorem dX8_areIn_12 : decode cX8_areIn 12 = .ok (.if_icmp .ne 7, 3) := by decide +kernel
theorem dX8_areIn_15 : decode cX8_areIn 15 = .ok (.iconst 1, 1) := by decide +kernel
theorem dX8_areIn_16 : decode cX8_areIn 16 = .ok (.goto 4, 3) := by decide +kernel
theorem dX8_areIn_19 : decode cX8_areIn 19 = .ok (.iconst 0, 1) := by decide +kernel
theorem dX8_areIn_20 : decode cX8_areIn 20 = .ok (.ireturn, 1) := by decide +kernel
theorem dX8_canMiss_0 : decode cX8_canMiss 0 = .ok (.aload_n 0, 1) := by decide +kernel
theorem dX8_canMiss_1 : decode cX8_canMiss 1 = .ok (.iconst 0, 1) := by decide +kernel
theorem dX8_canMiss_2 : decode cX8_canMiss 2 = .ok (.invokevirtual 349, 3) := by decide +kernel
theorem dX8_canMiss_5 : decode cX8_canMiss 5 = .ok (.iconst 0, 1) := by decide +kernel
theorem dX8_canMiss_6 : decode cX8_canMiss 6 = .ok (.istore_n 3, 1) := by decide +kernel
theorem dX8_canMiss_7 : decode cX8_canMiss 7 = .ok (.iload_n 3, 1) := by decide +kernel
theorem dX8_canMiss_8 : decode cX8_canMiss 8 = .ok (.aload_n 0, 1) := by decide +kernel
theorem dX8_canMiss_9 : decode cX8_canMiss 9 = .ok (.getfield 99, 3) := by decide +kernel
theorem dX8_canMiss_12 : decode cX8_canMiss 12 = .ok (.if_icmp .gt 149, 3) := by decide +kernel
theorem dX8_canMiss_15 : decode cX8_canMiss 15 = .ok (.iconst 0, 1) := by decide +kernel
theorem dX8_canMiss_16 : decode cX8_canMiss 16 = .ok (.istore 4, 2) := by decide +kernel
theorem dX8_canMiss_18 : decode cX8_canMiss 18 = .ok (.iload 4, 2) := by decide +kernel
theorem dX8_canMiss_20 : decode cX8_canMiss 20 = .ok (.aload_n 0, 1) := by decide +kernel
theorem dX8_canMiss_21 : decode cX8_canMiss 21 = .ok (.invokevirtual 286, 3) := by decide +kernel
theorem dX8_canMiss_24 : decode cX8_canMiss 24 = .ok (.if_icmp .ge 119, 3) := by decide +kernel
theorem dX8_canMiss_27 : decode cX8_canMiss 27 = .ok (.aload_n 0, 1) := by decide +kernel
theorem dX8_canMiss_28 : decode cX8_canMiss 28 = .ok (.getfield 82, 3) := by decide +kernel
theorem dX8_canMiss_31 : decode cX8_canMiss 31 = .ok (.iload 4, 2) := by decide +kernel
theorem dX8_canMiss_33 : decode cX8_canMiss 33 = .ok (.aload_n 0, 1) := by decide +kernel
theorem dX8_canMiss_34 : decode cX8_canMiss 34 = .ok (.iload 4, 2) := by decide +kernel
theorem dX8_canMiss_36 : decode cX8_canMiss 36 = .ok (.iload_n 1, 1) := by decide +kernel
theorem dX8_canMiss_37 : decode cX8_canMiss 37 = .ok (.iload_n 2, 1) := by decide +kernel
theorem dX8_canMiss_38 : decode cX8_canMiss 38 = .ok (.invokevirtual 352, 3) := by decide +kernel
theorem dX8_canMiss_41 : decode cX8_canMiss 41 = .ok (.ifCond .eq 7, 3) := by decide +kernel
theorem dX8_canMiss_44 : decode cX8_canMiss 44 = .ok (.iconst (-1), 1) := by decide +kernel
theorem dX8_canMiss_45 : decode cX8_canMiss 45 = .ok (.goto 10, 3) := by decide +kernel
theorem dX8_canMiss_48 : decode cX8_canMiss 48 = .ok (.aload_n 0, 1) := by decide +kernel
theorem dX8_canMiss_49 : decode cX8_canMiss 49 = .ok (.getfield 82, 3) := by decide +kernel
theorem dX8_canMiss_52 : decode cX8_canMiss 52 = .ok (.iload 4, 2) := by decide +kernel
theorem dX8_canMiss_54 : decode cX8_canMiss 54 = .ok (.iaload, 1) := by decide +kernel
theorem dX8_canMiss_55 : decode cX8_canMiss 55 = .ok (.iastore, 1) := by decide +kernel
theorem dX8_canMiss_56 : decode cX8_canMiss 56 = .ok (.aload_n 0, 1) := by decide +kernel
theorem dX8_canMiss_57 : decode cX8_canMiss 57 = .ok (.getfield 82, 3) := by decide +kernel
theorem dX8_canMiss_60 : decode cX8_canMiss 60 = .ok (.iload 4, 2) := by decide +kernel
theorem dX8_canMiss_62 : decode cX8_canMiss 62 = .ok (.iaload, 1) := by decide +kernel
theorem dX8_canMiss_63 : decode cX8_canMiss 63 = .ok (.ifCond .lt 74, 3) := by decide +kernel
theorem dX8_canMiss_66 : decode cX8_canMiss 66 = .ok (.iload_n 3, 1) := by decide +kernel
theorem dX8_canMiss_67 : decode cX8_canMiss 67 = .ok (.aload_n 0, 1) := by decide +kernel
theorem dX8_canMiss_68 : decode cX8_canMiss 68 = .ok (.getfield 99, 3) := by decide +kernel
theorem dX8_canMiss_71 : decode cX8_canMiss 71 = .ok (.if_icmp .ge 66, 3) := by decide +kernel
theorem dX8_canMiss_74 : decode cX8_canMiss 74 = .ok (.aload_n 0, 1) := by decide +kernel
theorem dX8_canMiss_75 : decode cX8_canMiss 75 = .ok (.iload_n 3, 1) := by decide +kernel
theorem dX8_canMiss_76 : decode cX8_canMiss 76 = .ok (.iload 4, 2) := by decide +kernel
theorem dX8_canMiss_78 : decode cX8_canMiss 78 = .ok (.invokevirtual 297, 3) := by decide +kernel
theorem dX8_canMiss_81 : decode cX8_canMiss 81 = .ok (.iconst 0, 1) := by decide +kernel
theorem dX8_canMiss_82 : decode cX8_canMiss 82 = .ok (.istore 5, 2) := by decide +kernel
theorem dX8_canMiss_84 : decode cX8_canMiss 84 = .ok (.iload 5, 2) := by decide +kernel
theorem dX8_canMiss_86 : decode cX8_canMiss 86 = .ok (.aload_n 0, 1) := by decide +kernel
theorem dX8_canMiss_87 : decode cX8_canMiss 87 = .ok (.getfield 270, 3) := by decide +kernel
theorem dX8_canMiss_90 : decode cX8_canMiss 90 = .ok (.if_icmp .ge 47, 3) := by decide +kernel
theorem dX8_canMiss_93 : decode cX8_canMiss 93 = .ok (.aload_n 0, 1) := by decide +kernel
theorem dX8_canMiss_94 : decode cX8_canMiss 94 = .ok (.iload 5, 2) := by decide +kernel
theorem dX8_canMiss_96 : decode cX8_canMiss 96 = .ok (.invokevirtual 300, 3) := by decide +kernel
theorem dX8_canMiss_99 : decode cX8_canMiss 99 = .ok (.aload_n 0, 1) := by decide +kernel
theorem dX8_canMiss_100 : decode cX8_canMiss 100 = .ok (.iload_n 3, 1) := by decide +kernel
theorem dX8_canMiss_101 : decode cX8_canMiss 101 = .ok (.invokevirtual 303, 3) := by decide +kernel
theorem dX8_canMiss_104 : decode cX8_canMiss 104 = .ok (.ifCond .eq 27, 3) := by decide +kernel
theorem dX8_canMiss_107 : decode cX8_canMiss 107 = .ok (.aload_n 0, 1) := by decide +kernel
theorem dX8_canMiss_108 : decode cX8_canMiss 108 = .ok (.iload_n 3, 1) := by decide +kernel
theorem dX8_canMiss_109 : decode cX8_canMiss 109 = .ok (.iconst 1, 1) := by decide +kernel
theorem dX8_canMiss_110 : decode cX8_canMiss 110 = .ok (.iadd, 1) := by decide +kernel
theorem dX8_canMiss_111 : decode cX8_canMiss 111 = .ok (.aload_n 0, 1) := by decide +kernel
theorem dX8_canMiss_112 : decode cX8_canMiss 112 = .ok (.getfield 276, 3) := by decide +kernel
theorem dX8_canMiss_115 : decode cX8_canMiss 115 = .ok (.invokevirtual 333, 3) := by decide +kernel
theorem dX8_canMiss_118 : decode cX8_canMiss 118 = .ok (.ifCond .eq 13, 3) := by decide +kernel
theorem dX8_canMiss_121 : decode cX8_canMiss 121 = .ok (.aload_n 0, 1) := by decide +kernel
theorem dX8_canMiss_122 : decode cX8_canMiss 122 = .ok (.getfield 85, 3) := by decide +kernel
theorem dX8_canMiss_125 : decode cX8_canMiss 125 = .ok (.aload_n 0, 1) := by decide +kernel
theorem dX8_canMiss_126 : decode cX8_canMiss 126 = .ok (.getfield 276, 3) := by decide +kernel
theorem dX8_canMiss_129 : decode cX8_canMiss 129 = .ok (.iconst 0, 1) := by decide +kernel
theorem dX8_canMiss_130 : decode cX8_canMiss 130 = .ok (.iastore, 1) := by decide +kernel
theorem dX8_canMiss_131 : decode cX8_canMiss 131 = .ok (.iinc 5 1, 3) := by decide +kernel
theorem dX8_canMiss_134 : decode cX8_canMiss 134 = .ok (.goto (-50), 3) := by decide +kernel
theorem dX8_canMiss_137 : decode cX8_canMiss 137 = .ok (.iinc 4 1, 3) := by decide +kernel
theorem dX8_canMiss_140 : decode cX8_canMiss 140 = .ok (.goto (-122), 3) := by decide +kernel
theorem dX8_canMiss_143 : decode cX8_canMiss 143 = .ok (.iload_n 3, 1) := by decide +kernel
theorem dX8_canMiss_144 : decode cX8_canMiss 144 = .ok (.aload_n 0, 1) := by decide +kernel
theorem dX8_canMiss_145 : decode cX8_canMiss 145 = .ok (.getfield 99, 3) := by decide +kernel
theorem dX8_canMiss_148 : decode cX8_canMiss 148 = .ok (.if_icmp .ge 7, 3) := by decide +kernel
theorem dX8_canMiss_151 : decode cX8_canMiss 151 = .ok (.aload_n 0, 1) := by decide +kernel
theorem dX8_canMiss_152 : decode cX8_canMiss 152 = .ok (.invokevirtual 355, 3) := by decide +kernel
theorem dX8_canMiss_155 : decode cX8_canMiss 155 = .ok (.iinc 3 1, 3) := by decide +kernel
theorem dX8_canMiss_158 : decode cX8_canMiss 158 = .ok (.goto (-151), 3) := by decide +kernel
theorem dX8_canMiss_161 : decode cX8_canMiss 161 = .ok (.aload_n 0, 1) := by decide +kernel
theorem dX8_canMiss_162 : decode cX8_canMiss 162 = .ok (.invokevirtual 358, 3) := by decide +kernel
theorem dX8_canMiss_165 : decode cX8_canMiss 165 = .ok (.ireturn, 1) := by decide +kernel
theorem dX8_met_0 : decode cX8_met 0 = .ok (.aload_n 0, 1) := by decide +kernel
theorem dX8_met_1 : decode cX8_met 1 = .ok (.iload_n 1, 1) := by decide +kernel
theorem dX8_met_2 : decode cX8_met 2 = .ok (.invokevirtual 224, 3) := by decide +kernel
theorem dX8_met_5 : decode cX8_met 5 = .ok (.ifCond .eq 16, 3) := by decide +kernel
theorem dX8_met_8 : decode cX8_met 8 = .ok (.aload_n 0, 1) := by decide +kernel
theorem dX8_met_9 : decode cX8_met 9 = .ok (.iload_n 2, 1) := by decide +kernel
theorem dX8_met_10 : decode cX8_met 10 = .ok (.invokevirtual 224, 3) := by decide +kernel
theorem dX8_met_13 : decode cX8_met 13 = .ok (.ifCond .eq 8, 3) := by decide +kernel
theorem dX8_met_16 : decode cX8_met 16 = .ok (.iload_n 1, 1) := by decide +kernel
theorem dX8_met_17 : decode cX8_met 17 = .ok (.iload_n 2, 1) := by decide +kernel
theorem dX8_met_18 : decode cX8_met 18 = .ok (.if_icmp .ne 5, 3) := by decide +kernel
theorem dX8_met_21 : decode cX8_met 21 = .ok (.iconst (-1), 1) := by decide +kernel
theorem dX8_met_22 : decode cX8_met 22 = .ok (.ireturn, 1) := by decide +kernel
theorem dX8_met_23 : decode cX8_met 23 = .ok (.aload_n 0, 1) := by decide +kernel
theorem dX8_met_24 : decode cX8_met 24 = .ok (.invokevirtual 342, 3) := by decide +kernel
theorem dX8_met_27 : decode cX8_met 27 = .ok (.ifCond .ne 9, 3) := by decide +kernel
theorem dX8_met_30 : decode cX8_met 30 = .ok (.aload_n 0, 1) := by decide +kernel
theorem dX8_met_31 : decode cX8_met 31 = .ok (.iconst 4, 1) := by decide +kernel
theorem dX8_met_32 : decode cX8_met 32 = .ok (.invokevirtual 122, 3) := by decide +kernel
theorem dX8_met_35 : decode cX8_met 35 = .ok (.ireturn, 1) := by decide +kernel
theorem dX8_met_36 : decode cX8_met 36 = .ok (.bipush (-9), 2) := by decide +kernel
theorem dX8_met_38 : decode cX8_met 38 = .ok (.istore_n 3, 1) := by decide +kernel
theorem dX8_met_39 : decode cX8_met 39 = .ok (.aload_n 0, 1) := by decide +kernel
theorem dX8_met_40 : decode cX8_met 40 = .ok (.getfield 99, 3) := by decide +kernel
theorem dX8_met_43 : decode cX8_met 43 = .ok (.istore 4, 2) := by decide +kernel
theorem dX8_met_45 : decode cX8_met 45 = .ok (.iload 4, 2) := by decide +kernel
theorem dX8_met_47 : decode cX8_met 47 = .ok (.ifCond .lt 56, 3) := by decide +kernel
theorem dX8_met_50 : decode cX8_met 50 = .ok (.iconst 0, 1) := by decide +kernel
theorem dX8_met_51 : decode cX8_met 51 = .ok (.istore 5, 2) := by decide +kernel
theorem dX8_met_53 : decode cX8_met 53 = .ok (.iload 5, 2) := by decide +kernel
theorem dX8_met_55 : decode cX8_met 55 = .ok (.aload_n 0, 1) := by decide +kernel
theorem dX8_met_56 : decode cX8_met 56 = .ok (.invokevirtual 286, 3) := by decide +kernel
theorem dX8_met_59 : decode cX8_met 59 = .ok (.if_icmp .ge 38, 3) := by decide +kernel
theorem dX8_met_62 : decode cX8_met 62 = .ok (.aload_n 0, 1) := by decide +kernel
theorem dX8_met_63 : decode cX8_met 63 = .ok (.iload 4, 2) := by decide +kernel
theorem dX8_met_65 : decode cX8_met 65 = .ok (.iload 5, 2) := by decide +kernel
theorem dX8_met_67 : decode cX8_met 67 = .ok (.invokevirtual 333, 3) := by decide +kernel
theorem dX8_met_70 : decode cX8_met 70 = .ok (.ifCond .eq 19, 3) := by decide +kernel
theorem dX8_met_73 : decode cX8_met 73 = .ok (.aload_n 0, 1) := by decide +kernel
theorem dX8_met_74 : decode cX8_met 74 = .ok (.iload 5, 2) := by decide +kernel
theorem dX8_met_76 : decode cX8_met 76 = .ok (.iload_n 1, 1) := by decide +kernel
theorem dX8_met_77 : decode cX8_met 77 = .ok (.iload_n 2, 1) := by decide +kernel
theorem dX8_met_78 : decode cX8_met 78 = .ok (.invokevirtual 352, 3) := by decide +kernel
theorem dX8_met_81 : decode cX8_met 81 = .ok (.ifCond .eq 8, 3) := by decide +kernel
theorem dX8_met_84 : decode cX8_met 84 = .ok (.iload 4, 2) := by decide +kernel
theorem dX8_met_86 : decode cX8_met 86 = .ok (.goto 4, 3) := by decide +kernel
theorem dX8_met_89 : decode cX8_met 89 = .ok (.iload_n 3, 1) := by decide +kernel
theorem dX8_met_90 : decode cX8_met 90 = .ok (.istore_n 3, 1) := by decide +kernel
theorem dX8_met_91 : decode cX8_met 91 = .ok (.iinc 5 1, 3) := by decide +kernel
theorem dX8_met_94 : decode cX8_met 94 = .ok (.goto (-41), 3) := by decide +kernel
theorem dX8_met_97 : decode cX8_met 97 = .ok (.iinc 4 (-1), 3) := by decide +kernel
theorem dX8_met_100 : decode cX8_met 100 = .ok (.goto (-55), 3) := by decide +kernel
theorem dX8_met_103 : decode cX8_met 103 = .ok (.aload_n 0, 1) := by decide +kernel
theorem dX8_met_104 : decode cX8_met 104 = .ok (.iload_n 3, 1) := by decide +kernel
theorem dX8_met_105 : decode cX8_met 105 = .ok (.iload_n 3, 1) := by decide +kernel
theorem dX8_met_106 : decode cX8_met 106 = .ok (.bipush (-9), 2) := by decide +kernel
theorem dX8_met_108 : decode cX8_met 108 = .ok (.if_icmp .ne 7, 3) := by decide +kernel
theorem dX8_met_111 : decode cX8_met 111 = .ok (.iconst 0, 1) := by decide +kernel
theorem dX8_met_112 : decode cX8_met 112 = .ok (.goto 17, 3) := by decide +kernel
theorem dX8_met_115 : decode cX8_met 115 = .ok (.aload_n 0, 1) := by decide +kernel
theorem dX8_met_116 : decode cX8_met 116 = .ok (.iload_n 1, 1) := by decide +kernel
theorem dX8_met_117 : decode cX8_met 117 = .ok (.iload_n 2, 1) := by decide +kernel
theorem dX8_met_118 : decode cX8_met 118 = .ok (.invokevirtual 361, 3) := by decide +kernel
theorem dX8_met_121 : decode cX8_met 121 = .ok (.ifCond .eq 7, 3) := by decide +kernel
theorem dX8_met_124 : decode cX8_met 124 = .ok (.iconst 1, 1) := by decide +kernel
theorem dX8_met_125 : decode cX8_met 125 = .ok (.goto 4, 3) := by decide +kernel
theorem dX8_met_128 : decode cX8_met 128 = .ok (.iconst 2, 1) := by decide +kernel
theorem dX8_met_129 : decode cX8_met 129 = .ok (.invokevirtual 130, 3) := by decide +kernel
theorem dX8_met_132 : decode cX8_met 132 = .ok (.ireturn, 1) := by decide +kernel
theorem dX8_stands_0 : decode cX8_stands 0 = .ok (.aload_n 0, 1) := by decide +kernel
theorem dX8_stands_1 : decode cX8_stands 1 = .ok (.iconst 0, 1) := by decide +kernel
theorem dX8_stands_2 : decode cX8_stands 2 = .ok (.invokevirtual 349, 3) := by decide +kernel
theorem dX8_stands_5 : decode cX8_stands 5 = .ok (.iconst 0, 1) := by decide +kernel
theorem dX8_stands_6 : decode cX8_stands 6 = .ok (.istore 4, 2) := by decide +kernel
theorem dX8_stands_8 : decode cX8_stands 8 = .ok (.iconst 0, 1) := by decide +kernel
theorem dX8_stands_9 : decode cX8_stands 9 = .ok (.istore 5, 2) := by decide +kernel
theorem dX8_stands_11 : decode cX8_stands 11 = .ok (.iload 5, 2) := by decide +kernel
theorem dX8_stands_13 : decode cX8_stands 13 = .ok (.aload_n 0, 1) := by decide +kernel
theorem dX8_stands_14 : decode cX8_stands 14 = .ok (.getfield 99, 3) := by decide +kernel
theorem dX8_stands_17 : decode cX8_stands 17 = .ok (.if_icmp .ge 242, 3) := by decide +kernel
theorem dX8_stands_20 : decode cX8_stands 20 = .ok (.iconst 0, 1) := by decide +kernel
theorem dX8_stands_21 : decode cX8_stands 21 = .ok (.istore 6, 2) := by decide +kernel
theorem dX8_stands_23 : decode cX8_stands 23 = .ok (.iload 6, 2) := by decide +kernel
theorem dX8_stands_25 : decode cX8_stands 25 = .ok (.aload_n 0, 1) := by decide +kernel
theorem dX8_stands_26 : decode cX8_stands 26 = .ok (.invokevirtual 286, 3) := by decide +kernel
theorem dX8_stands_29 : decode cX8_stands 29 = .ok (.if_icmp .ge 220, 3) := by decide +kernel
theorem dX8_stands_32 : decode cX8_stands 32 = .ok (.aload_n 0, 1) := by decide +kernel
theorem dX8_stands_33 : decode cX8_stands 33 = .ok (.getfield 82, 3) := by decide +kernel
theorem dX8_stands_36 : decode cX8_stands 36 = .ok (.iload 6, 2) := by decide +kernel
theorem dX8_stands_38 : decode cX8_stands 38 = .ok (.iaload, 1) := by decide +kernel
theorem dX8_stands_39 : decode cX8_stands 39 = .ok (.ifCond .lt 204, 3) := by decide +kernel
theorem dX8_stands_42 : decode cX8_stands 42 = .ok (.aload_n 0, 1) := by decide +kernel
theorem dX8_stands_43 : decode cX8_stands 43 = .ok (.iload 5, 2) := by decide +kernel
theorem dX8_stands_45 : decode cX8_stands 45 = .ok (.iload 6, 2) := by decide +kernel
theorem dX8_stands_47 : decode cX8_stands 47 = .ok (.invokevirtual 297, 3) := by decide +kernel
theorem dX8_stands_50 : decode cX8_stands 50 = .ok (.iconst 0, 1) := by decide +kernel
theorem dX8_stands_51 : decode cX8_stands 51 = .ok (.istore 7, 2) := by decide +kernel
theorem dX8_stands_53 : decode cX8_stands 53 = .ok (.iload 7, 2) := by decide +kernel
theorem dX8_stands_55 : decode cX8_stands 55 = .ok (.aload_n 0, 1) := by decide +kernel
theorem dX8_stands_56 : decode cX8_stands 56 = .ok (.getfield 270, 3) := by decide +kernel
theorem dX8_stands_59 : decode cX8_stands 59 = .ok (.if_icmp .ge 184, 3) := by decide +kernel
theorem dX8_stands_62 : decode cX8_stands 62 = .ok (.aload_n 0, 1) := by decide +kernel
theorem dX8_stands_63 : decode cX8_stands 63 = .ok (.iload 7, 2) := by decide +kernel
theorem dX8_stands_65 : decode cX8_stands 65 = .ok (.invokevirtual 300, 3) := by decide +kernel
theorem dX8_stands_68 : decode cX8_stands 68 = .ok (.aload_n 0, 1) := by decide +kernel
theorem dX8_stands_69 : decode cX8_stands 69 = .ok (.iload 5, 2) := by decide +kernel
theorem dX8_stands_71 : decode cX8_stands 71 = .ok (.invokevirtual 303, 3) := by decide +kernel
theorem dX8_stands_74 : decode cX8_stands 74 = .ok (.ifCond .eq 163, 3) := by decide +kernel
theorem dX8_stands_77 : decode cX8_stands 77 = .ok (.aload_n 0, 1) := by decide +kernel
theorem dX8_stands_78 : decode cX8_stands 78 = .ok (.iload 5, 2) := by decide +kernel
theorem dX8_stands_80 : decode cX8_stands 80 = .ok (.iconst 1, 1) := by decide +kernel
theorem dX8_stands_81 : decode cX8_stands 81 = .ok (.iadd, 1) := by decide +kernel
theorem dX8_stands_82 : decode cX8_stands 82 = .ok (.aload_n 0, 1) := by decide +kernel
theorem dX8_stands_83 : decode cX8_stands 83 = .ok (.getfield 276, 3) := by decide +kernel
theorem dX8_stands_86 : decode cX8_stands 86 = .ok (.invokevirtual 333, 3) := by decide +kernel
theorem dX8_stands_89 : decode cX8_stands 89 = .ok (.ifCond .eq 148, 3) := by decide +kernel
theorem dX8_stands_92 : decode cX8_stands 92 = .ok (.aload_n 0, 1) := by decide +kernel
theorem dX8_stands_93 : decode cX8_stands 93 = .ok (.getfield 71, 3) := by decide +kernel
theorem dX8_stands_96 : decode cX8_stands 96 = .ok (.iload_n 1, 1) := by decide +kernel
theorem dX8_stands_97 : decode cX8_stands 97 = .ok (.iaload, 1) := by decide +kernel
theorem dX8_stands_98 : decode cX8_stands 98 = .ok (.ifCond .ge 15, 3) := by decide +kernel
theorem dX8_stands_101 : decode cX8_stands 101 = .ok (.aload_n 0, 1) := by decide +kernel
theorem dX8_stands_102 : decode cX8_stands 102 = .ok (.getfield 82, 3) := by decide +kernel
theorem dX8_stands_105 : decode cX8_stands 105 = .ok (.iload 6, 2) := by decide +kernel
theorem dX8_stands_107 : decode cX8_stands 107 = .ok (.iaload, 1) := by decide +kernel
theorem dX8_stands_108 : decode cX8_stands 108 = .ok (.iconst 1, 1) := by decide +kernel
theorem dX8_stands_109 : decode cX8_stands 109 = .ok (.iadd, 1) := by decide +kernel
theorem dX8_stands_110 : decode cX8_stands 110 = .ok (.goto 4, 3) := by decide +kernel
theorem dX8_stands_113 : decode cX8_stands 113 = .ok (.iconst 0, 1) := by decide +kernel
theorem dX8_stands_114 : decode cX8_stands 114 = .ok (.istore 8, 2) := by decide +kernel
theorem dX8_stands_116 : decode cX8_stands 116 = .ok (.iload 8, 2) := by decide +kernel
theorem dX8_stands_118 : decode cX8_stands 118 = .ok (.iload_n 2, 1) := by decide +kernel
theorem dX8_stands_119 : decode cX8_stands 119 = .ok (.if_icmp .lt 7, 3) := by decide +kernel
theorem dX8_stands_122 : decode cX8_stands 122 = .ok (.iconst 1, 1) := by decide +kernel
theorem dX8_stands_123 : decode cX8_stands 123 = .ok (.goto 4, 3) := by decide +kernel
theorem dX8_stands_126 : decode cX8_stands 126 = .ok (.iconst 0, 1) := by decide +kernel
theorem dX8_stands_127 : decode cX8_stands 127 = .ok (.istore 9, 2) := by decide +kernel
theorem dX8_stands_129 : decode cX8_stands 129 = .ok (.iload 4, 2) := by decide +kernel
theorem dX8_stands_131 : decode cX8_stands 131 = .ok (.ifCond .ne 8, 3) := by decide +kernel
theorem dX8_stands_134 : decode cX8_stands 134 = .ok (.iload 9, 2) := by decide +kernel
theorem dX8_stands_136 : decode cX8_stands 136 = .ok (.ifCond .eq 7, 3) := by decide +kernel
theorem dX8_stands_139 : decode cX8_stands 139 = .ok (.iconst 1, 1) := by decide +kernel
theorem dX8_stands_140 : decode cX8_stands 140 = .ok (.goto 4, 3) := by decide +kernel
theorem dX8_stands_143 : decode cX8_stands 143 = .ok (.iconst 0, 1) := by decide +kernel
theorem dX8_stands_144 : decode cX8_stands 144 = .ok (.istore 4, 2) := by decide +kernel
theorem dX8_stands_146 : decode cX8_stands 146 = .ok (.aload_n 0, 1) := by decide +kernel
theorem dX8_stands_147 : decode cX8_stands 147 = .ok (.getfield 85, 3) := by decide +kernel
theorem dX8_stands_150 : decode cX8_stands 150 = .ok (.aload_n 0, 1) := by decide +kernel
theorem dX8_stands_151 : decode cX8_stands 151 = .ok (.getfield 276, 3) := by decide +kernel
theorem dX8_stands_154 : decode cX8_stands 154 = .ok (.iaload, 1) := by decide +kernel
theorem dX8_stands_155 : decode cX8_stands 155 = .ok (.ifCond .lt 38, 3) := by decide +kernel
theorem dX8_stands_158 : decode cX8_stands 158 = .ok (.iload_n 3, 1) := by decide +kernel
theorem dX8_stands_159 : decode cX8_stands 159 = .ok (.ifCond .eq 20, 3) := by decide +kernel
theorem dX8_stands_162 : decode cX8_stands 162 = .ok (.iload 8, 2) := by decide +kernel
theorem dX8_stands_164 : decode cX8_stands 164 = .ok (.aload_n 0, 1) := by decide +kernel
theorem dX8_stands_165 : decode cX8_stands 165 = .ok (.getfield 85, 3) := by decide +kernel
theorem dX8_stands_168 : decode cX8_stands 168 = .ok (.aload_n 0, 1) := by decide +kernel
theorem dX8_stands_169 : decode cX8_stands 169 = .ok (.getfield 276, 3) := by decide +kernel
theorem dX8_stands_172 : decode cX8_stands 172 = .ok (.iaload, 1) := by decide +kernel
theorem dX8_stands_173 : decode cX8_stands 173 = .ok (.if_icmp .ge 24, 3) := by decide +kernel
theorem dX8_stands_176 : decode cX8_stands 176 = .ok (.goto 17, 3) := by decide +kernel
theorem dX8_stands_179 : decode cX8_stands 179 = .ok (.iload 8, 2) := by decide +kernel
theorem dX8_stands_181 : decode cX8_stands 181 = .ok (.aload_n 0, 1) := by decide +kernel
theorem dX8_stands_182 : decode cX8_stands 182 = .ok (.getfield 85, 3) := by decide +kernel
theorem dX8_stands_185 : decode cX8_stands 185 = .ok (.aload_n 0, 1) := by decide +kernel
theorem dX8_stands_186 : decode cX8_stands 186 = .ok (.getfield 276, 3) := by decide +kernel
theorem dX8_stands_189 : decode cX8_stands 189 = .ok (.iaload, 1) := by decide +kernel
theorem dX8_stands_190 : decode cX8_stands 190 = .ok (.if_icmp .le 7, 3) := by decide +kernel
theorem dX8_stands_193 : decode cX8_stands 193 = .ok (.iconst 1, 1) := by decide +kernel
theorem dX8_stands_194 : decode cX8_stands 194 = .ok (.goto 4, 3) := by decide +kernel
theorem dX8_stands_197 : decode cX8_stands 197 = .ok (.iconst 0, 1) := by decide +kernel
theorem dX8_stands_198 : decode cX8_stands 198 = .ok (.istore 10, 2) := by decide +kernel
theorem dX8_stands_200 : decode cX8_stands 200 = .ok (.aload_n 0, 1) := by decide +kernel
theorem dX8_stands_201 : decode cX8_stands 201 = .ok (.getfield 85, 3) := by decide +kernel
theorem dX8_stands_204 : decode cX8_stands 204 = .ok (.aload_n 0, 1) := by decide +kernel
theorem dX8_stands_205 : decode cX8_stands 205 = .ok (.getfield 276, 3) := by decide +kernel
theorem dX8_stands_208 : decode cX8_stands 208 = .ok (.iload 10, 2) := by decide +kernel
theorem dX8_stands_210 : decode cX8_stands 210 = .ok (.ifCond .eq 17, 3) := by decide +kernel
theorem dX8_stands_213 : decode cX8_stands 213 = .ok (.iload_n 3, 1) := by decide +kernel
theorem dX8_stands_214 : decode cX8_stands 214 = .ok (.ifCond .eq 8, 3) := by decide +kernel
theorem dX8_stands_217 : decode cX8_stands 217 = .ok (.iload 9, 2) := by decide +kernel
theorem dX8_stands_219 : decode cX8_stands 219 = .ok (.ifCond .ne 8, 3) := by decide +kernel
theorem dX8_stands_222 : decode cX8_stands 222 = .ok (.iload 8, 2) := by decide +kernel
theorem dX8_stands_224 : decode cX8_stands 224 = .ok (.goto 12, 3) := by decide +kernel
theorem dX8_stands_227 : decode cX8_stands 227 = .ok (.aload_n 0, 1) := by decide +kernel
theorem dX8_stands_228 : decode cX8_stands 228 = .ok (.getfield 85, 3) := by decide +kernel
theorem dX8_stands_231 : decode cX8_stands 231 = .ok (.aload_n 0, 1) := by decide +kernel
theorem dX8_stands_232 : decode cX8_stands 232 = .ok (.getfield 276, 3) := by decide +kernel
theorem dX8_stands_235 : decode cX8_stands 235 = .ok (.iaload, 1) := by decide +kernel
theorem dX8_stands_236 : decode cX8_stands 236 = .ok (.iastore, 1) := by decide +kernel
theorem dX8_stands_237 : decode cX8_stands 237 = .ok (.iinc 7 1, 3) := by decide +kernel
theorem dX8_stands_240 : decode cX8_stands 240 = .ok (.goto (-187), 3) := by decide +kernel
theorem dX8_stands_243 : decode cX8_stands 243 = .ok (.iinc 6 1, 3) := by decide +kernel
theorem dX8_stands_246 : decode cX8_stands 246 = .ok (.goto (-223), 3) := by decide +kernel
theorem dX8_stands_249 : decode cX8_stands 249 = .ok (.aload_n 0, 1) := by decide +kernel
theorem dX8_stands_250 : decode cX8_stands 250 = .ok (.invokevirtual 355, 3) := by decide +kernel
theorem dX8_stands_253 : decode cX8_stands 253 = .ok (.iinc 5 1, 3) := by decide +kernel
theorem dX8_stands_256 : decode cX8_stands 256 = .ok (.goto (-245), 3) := by decide +kernel
theorem dX8_stands_259 : decode cX8_stands 259 = .ok (.iload_n 3, 1) := by decide +kernel
theorem dX8_stands_260 : decode cX8_stands 260 = .ok (.ifCond .eq 10, 3) := by decide +kernel
theorem dX8_stands_263 : decode cX8_stands 263 = .ok (.aload_n 0, 1) := by decide +kernel
theorem dX8_stands_264 : decode cX8_stands 264 = .ok (.invokevirtual 358, 3) := by decide +kernel
theorem dX8_stands_267 : decode cX8_stands 267 = .ok (.goto 5, 3) := by decide +kernel
theorem dX8_stands_270 : decode cX8_stands 270 = .ok (.iload 4, 2) := by decide +kernel
theorem dX8_stands_272 : decode cX8_stands 272 = .ok (.ireturn, 1) := by decide +kernel
theorem dX8_still_0 : decode cX8_still 0 = .ok (.aload_n 0, 1) := by decide +kernel
theorem dX8_still_1 : decode cX8_still 1 = .ok (.iload_n 1, 1) := by decide +kernel
theorem dX8_still_2 : decode cX8_still 2 = .ok (.invokevirtual 224, 3) := by decide +kernel
theorem dX8_still_5 : decode cX8_still 5 = .ok (.ifCond .eq 13, 3) := by decide +kernel
theorem dX8_still_8 : decode cX8_still 8 = .ok (.iload_n 2, 1) := by decide +kernel
theorem dX8_still_9 : decode cX8_still 9 = .ok (.iconst 1, 1) := by decide +kernel
theorem dX8_still_10 : decode cX8_still 10 = .ok (.bipush 30, 2) := by decide +kernel
theorem dX8_still_12 : decode cX8_still 12 = .ok (.invokestatic 105, 3) := by decide +kernel
theorem dX8_still_15 : decode cX8_still 15 = .ok (.ifCond .ne 5, 3) := by decide +kernel
theorem dX8_still_18 : decode cX8_still 18 = .ok (.iconst (-1), 1) := by decide +kernel
theorem dX8_still_19 : decode cX8_still 19 = .ok (.ireturn, 1) := by decide +kernel
theorem dX8_still_20 : decode cX8_still 20 = .ok (.aload_n 0, 1) := by decide +kernel
theorem dX8_still_21 : decode cX8_still 21 = .ok (.invokevirtual 342, 3) := by decide +kernel
theorem dX8_still_24 : decode cX8_still 24 = .ok (.ifCond .ne 9, 3) := by decide +kernel
theorem dX8_still_27 : decode cX8_still 27 = .ok (.aload_n 0, 1) := by decide +kernel
theorem dX8_still_28 : decode cX8_still 28 = .ok (.iconst 4, 1) := by decide +kernel
theorem dX8_still_29 : decode cX8_still 29 = .ok (.invokevirtual 122, 3) := by decide +kernel
theorem dX8_still_32 : decode cX8_still 32 = .ok (.ireturn, 1) := by decide +kernel
theorem dX8_still_33 : decode cX8_still 33 = .ok (.aload_n 0, 1) := by decide +kernel
theorem dX8_still_34 : decode cX8_still 34 = .ok (.iload_n 1, 1) := by decide +kernel
theorem dX8_still_35 : decode cX8_still 35 = .ok (.iload_n 2, 1) := by decide +kernel
theorem dX8_still_36 : decode cX8_still 36 = .ok (.iconst 0, 1) := by decide +kernel
theorem dX8_still_37 : decode cX8_still 37 = .ok (.invokevirtual 364, 3) := by decide +kernel
theorem dX8_still_40 : decode cX8_still 40 = .ok (.ifCond .ne 7, 3) := by decide +kernel
theorem dX8_still_43 : decode cX8_still 43 = .ok (.iconst 0, 1) := by decide +kernel
theorem dX8_still_44 : decode cX8_still 44 = .ok (.goto 18, 3) := by decide +kernel
theorem dX8_still_47 : decode cX8_still 47 = .ok (.aload_n 0, 1) := by decide +kernel
theorem dX8_still_48 : decode cX8_still 48 = .ok (.iload_n 1, 1) := by decide +kernel
theorem dX8_still_49 : decode cX8_still 49 = .ok (.iload_n 2, 1) := by decide +kernel
theorem dX8_still_50 : decode cX8_still 50 = .ok (.iconst 1, 1) := by decide +kernel
theorem dX8_still_51 : decode cX8_still 51 = .ok (.invokevirtual 364, 3) := by decide +kernel
theorem dX8_still_54 : decode cX8_still 54 = .ok (.ifCond .eq 7, 3) := by decide +kernel
theorem dX8_still_57 : decode cX8_still 57 = .ok (.iconst 1, 1) := by decide +kernel
theorem dX8_still_58 : decode cX8_still 58 = .ok (.goto 4, 3) := by decide +kernel
theorem dX8_still_61 : decode cX8_still 61 = .ok (.iconst 2, 1) := by decide +kernel
theorem dX8_still_62 : decode cX8_still 62 = .ok (.ireturn, 1) := by decide +kernel
theorem dX8_keepsRoom_0 : decode cX8_keepsRoom 0 = .ok (.iconst 0, 1) := by decide +kernel
theorem dX8_keepsRoom_1 : decode cX8_keepsRoom 1 = .ok (.istore_n 3, 1) := by decide +kernel
theorem dX8_keepsRoom_2 : decode cX8_keepsRoom 2 = .ok (.iconst 0, 1) := by decide +kernel
theorem dX8_keepsRoom_3 : decode cX8_keepsRoom 3 = .ok (.istore 4, 2) := by decide +kernel
theorem dX8_keepsRoom_5 : decode cX8_keepsRoom 5 = .ok (.iload 4, 2) := by decide +kernel
theorem dX8_keepsRoom_7 : decode cX8_keepsRoom 7 = .ok (.aload_n 0, 1) := by decide +kernel
theorem dX8_keepsRoom_8 : decode cX8_keepsRoom 8 = .ok (.invokevirtual 286, 3) := by decide +kernel
theorem dX8_keepsRoom_11 : decode cX8_keepsRoom 11 = .ok (.if_icmp .ge 62, 3) := by decide +kernel
theorem dX8_keepsRoom_14 : decode cX8_keepsRoom 14 = .ok (.aload_n 0, 1) := by decide +kernel
theorem dX8_keepsRoom_15 : decode cX8_keepsRoom 15 = .ok (.getfield 82, 3) := by decide +kernel
theorem dX8_keepsRoom_18 : decode cX8_keepsRoom 18 = .ok (.iload 4, 2) := by decide +kernel
theorem dX8_keepsRoom_20 : decode cX8_keepsRoom 20 = .ok (.aload_n 0, 1) := by decide +kernel
theorem dX8_keepsRoom_21 : decode cX8_keepsRoom 21 = .ok (.getfield 82, 3) := by decide +kernel
theorem dX8_keepsRoom_24 : decode cX8_keepsRoom 24 = .ok (.iload 4, 2) := by decide +kernel
theorem dX8_keepsRoom_26 : decode cX8_keepsRoom 26 = .ok (.iaload, 1) := by decide +kernel
theorem dX8_keepsRoom_27 : decode cX8_keepsRoom 27 = .ok (.ifCond .lt 18, 3) := by decide +kernel
theorem dX8_keepsRoom_30 : decode cX8_keepsRoom 30 = .ok (.aload_n 0, 1) := by decide +kernel
theorem dX8_keepsRoom_31 : decode cX8_keepsRoom 31 = .ok (.iload 4, 2) := by decide +kernel
theorem dX8_keepsRoom_33 : decode cX8_keepsRoom 33 = .ok (.iload_n 1, 1) := by decide +kernel
theorem dX8_keepsRoom_34 : decode cX8_keepsRoom 34 = .ok (.invokevirtual 261, 3) := by decide +kernel
theorem dX8_keepsRoom_37 : decode cX8_keepsRoom 37 = .ok (.iload_n 2, 1) := by decide +kernel
theorem dX8_keepsRoom_38 : decode cX8_keepsRoom 38 = .ok (.if_icmp .ne 7, 3) := by decide +kernel
theorem dX8_keepsRoom_41 : decode cX8_keepsRoom 41 = .ok (.iconst 0, 1) := by decide +kernel
theorem dX8_keepsRoom_42 : decode cX8_keepsRoom 42 = .ok (.goto 4, 3) := by decide +kernel
theorem dX8_keepsRoom_45 : decode cX8_keepsRoom 45 = .ok (.iconst (-1), 1) := by decide +kernel
theorem dX8_keepsRoom_46 : decode cX8_keepsRoom 46 = .ok (.iastore, 1) := by decide +kernel
theorem dX8_keepsRoom_47 : decode cX8_keepsRoom 47 = .ok (.iload_n 3, 1) := by decide +kernel
theorem dX8_keepsRoom_48 : decode cX8_keepsRoom 48 = .ok (.ifCond .ne 13, 3) := by decide +kernel
theorem dX8_keepsRoom_51 : decode cX8_keepsRoom 51 = .ok (.aload_n 0, 1) := by decide +kernel
theorem dX8_keepsRoom_52 : decode cX8_keepsRoom 52 = .ok (.getfield 82, 3) := by decide +kernel
theorem dX8_keepsRoom_55 : decode cX8_keepsRoom 55 = .ok (.iload 4, 2) := by decide +kernel
theorem dX8_keepsRoom_57 : decode cX8_keepsRoom 57 = .ok (.iaload, 1) := by decide +kernel
theorem dX8_keepsRoom_58 : decode cX8_keepsRoom 58 = .ok (.ifCond .lt 7, 3) := by decide +kernel
theorem dX8_keepsRoom_61 : decode cX8_keepsRoom 61 = .ok (.iconst 1, 1) := by decide +kernel
theorem dX8_keepsRoom_62 : decode cX8_keepsRoom 62 = .ok (.goto 4, 3) := by decide +kernel
theorem dX8_keepsRoom_65 : decode cX8_keepsRoom 65 = .ok (.iconst 0, 1) := by decide +kernel
theorem dX8_keepsRoom_66 : decode cX8_keepsRoom 66 = .ok (.istore_n 3, 1) := by decide +kernel
theorem dX8_keepsRoom_67 : decode cX8_keepsRoom 67 = .ok (.iinc 4 1, 3) := by decide +kernel
theorem dX8_keepsRoom_70 : decode cX8_keepsRoom 70 = .ok (.goto (-65), 3) := by decide +kernel
theorem dX8_keepsRoom_73 : decode cX8_keepsRoom 73 = .ok (.iload_n 3, 1) := by decide +kernel
theorem dX8_keepsRoom_74 : decode cX8_keepsRoom 74 = .ok (.ireturn, 1) := by decide +kernel
theorem dX8_goesOn_0 : decode cX8_goesOn 0 = .ok (.iconst 0, 1) := by decide +kernel
theorem dX8_goesOn_1 : decode cX8_goesOn 1 = .ok (.istore_n 2, 1) := by decide +kernel
theorem dX8_goesOn_2 : decode cX8_goesOn 2 = .ok (.iload_n 2, 1) := by decide +kernel
theorem dX8_goesOn_3 : decode cX8_goesOn 3 = .ok (.aload_n 0, 1) := by decide +kernel
theorem dX8_goesOn_4 : decode cX8_goesOn 4 = .ok (.invokevirtual 286, 3) := by decide +kernel
theorem dX8_goesOn_7 : decode cX8_goesOn 7 = .ok (.if_icmp .ge 77, 3) := by decide +kernel
theorem dX8_goesOn_10 : decode cX8_goesOn 10 = .ok (.aload_n 0, 1) := by decide +kernel
theorem dX8_goesOn_11 : decode cX8_goesOn 11 = .ok (.getfield 82, 3) := by decide +kernel
theorem dX8_goesOn_14 : decode cX8_goesOn 14 = .ok (.iload_n 2, 1) := by decide +kernel
theorem dX8_goesOn_15 : decode cX8_goesOn 15 = .ok (.iaload, 1) := by decide +kernel
theorem dX8_goesOn_16 : decode cX8_goesOn 16 = .ok (.ifCond .lt 62, 3) := by decide +kernel
theorem dX8_goesOn_19 : decode cX8_goesOn 19 = .ok (.aload_n 0, 1) := by decide +kernel
theorem dX8_goesOn_20 : decode cX8_goesOn 20 = .ok (.iload_n 1, 1) := by decide +kernel
theorem dX8_goesOn_21 : decode cX8_goesOn 21 = .ok (.iload_n 2, 1) := by decide +kernel
theorem dX8_goesOn_22 : decode cX8_goesOn 22 = .ok (.invokevirtual 297, 3) := by decide +kernel
theorem dX8_goesOn_25 : decode cX8_goesOn 25 = .ok (.iconst 0, 1) := by decide +kernel
theorem dX8_goesOn_26 : decode cX8_goesOn 26 = .ok (.istore_n 3, 1) := by decide +kernel
theorem dX8_goesOn_27 : decode cX8_goesOn 27 = .ok (.iload_n 3, 1) := by decide +kernel
theorem dX8_goesOn_28 : decode cX8_goesOn 28 = .ok (.aload_n 0, 1) := by decide +kernel
theorem dX8_goesOn_29 : decode cX8_goesOn 29 = .ok (.getfield 270, 3) := by decide +kernel
theorem dX8_goesOn_32 : decode cX8_goesOn 32 = .ok (.if_icmp .ge 46, 3) := by decide +kernel
theorem dX8_goesOn_35 : decode cX8_goesOn 35 = .ok (.aload_n 0, 1) := by decide +kernel
theorem dX8_goesOn_36 : decode cX8_goesOn 36 = .ok (.iload_n 3, 1) := by decide +kernel
theorem dX8_goesOn_37 : decode cX8_goesOn 37 = .ok (.invokevirtual 300, 3) := by decide +kernel
theorem dX8_goesOn_40 : decode cX8_goesOn 40 = .ok (.aload_n 0, 1) := by decide +kernel
theorem dX8_goesOn_41 : decode cX8_goesOn 41 = .ok (.iload_n 1, 1) := by decide +kernel
theorem dX8_goesOn_42 : decode cX8_goesOn 42 = .ok (.invokevirtual 303, 3) := by decide +kernel
theorem dX8_goesOn_45 : decode cX8_goesOn 45 = .ok (.ifCond .eq 27, 3) := by decide +kernel
theorem dX8_goesOn_48 : decode cX8_goesOn 48 = .ok (.aload_n 0, 1) := by decide +kernel
theorem dX8_goesOn_49 : decode cX8_goesOn 49 = .ok (.iload_n 1, 1) := by decide +kernel
theorem dX8_goesOn_50 : decode cX8_goesOn 50 = .ok (.iconst 1, 1) := by decide +kernel
theorem dX8_goesOn_51 : decode cX8_goesOn 51 = .ok (.iadd, 1) := by decide +kernel
theorem dX8_goesOn_52 : decode cX8_goesOn 52 = .ok (.aload_n 0, 1) := by decide +kernel
theorem dX8_goesOn_53 : decode cX8_goesOn 53 = .ok (.getfield 276, 3) := by decide +kernel
theorem dX8_goesOn_56 : decode cX8_goesOn 56 = .ok (.invokevirtual 333, 3) := by decide +kernel
theorem dX8_goesOn_59 : decode cX8_goesOn 59 = .ok (.ifCond .eq 13, 3) := by decide +kernel
theorem dX8_goesOn_62 : decode cX8_goesOn 62 = .ok (.aload_n 0, 1) := by decide +kernel
theorem dX8_goesOn_63 : decode cX8_goesOn 63 = .ok (.getfield 85, 3) := by decide +kernel
theorem dX8_goesOn_66 : decode cX8_goesOn 66 = .ok (.aload_n 0, 1) := by decide +kernel
theorem dX8_goesOn_67 : decode cX8_goesOn 67 = .ok (.getfield 276, 3) := by decide +kernel
theorem dX8_goesOn_70 : decode cX8_goesOn 70 = .ok (.iconst 0, 1) := by decide +kernel
theorem dX8_goesOn_71 : decode cX8_goesOn 71 = .ok (.iastore, 1) := by decide +kernel
theorem dX8_goesOn_72 : decode cX8_goesOn 72 = .ok (.iinc 3 1, 3) := by decide +kernel
theorem dX8_goesOn_75 : decode cX8_goesOn 75 = .ok (.goto (-48), 3) := by decide +kernel
theorem dX8_goesOn_78 : decode cX8_goesOn 78 = .ok (.iinc 2 1, 3) := by decide +kernel
theorem dX8_goesOn_81 : decode cX8_goesOn 81 = .ok (.goto (-79), 3) := by decide +kernel
theorem dX8_goesOn_84 : decode cX8_goesOn 84 = .ok (.aload_n 0, 1) := by decide +kernel
theorem dX8_goesOn_85 : decode cX8_goesOn 85 = .ok (.invokevirtual 355, 3) := by decide +kernel
theorem dX8_goesOn_88 : decode cX8_goesOn 88 = .ok (.return_, 1) := by decide +kernel
theorem dX8_judge_0 : decode cX8_judge 0 = .ok (.aload_n 0, 1) := by decide +kernel
theorem dX8_judge_1 : decode cX8_judge 1 = .ok (.iload_n 1, 1) := by decide +kernel
theorem dX8_judge_2 : decode cX8_judge 2 = .ok (.invokevirtual 224, 3) := by decide +kernel
theorem dX8_judge_5 : decode cX8_judge 5 = .ok (.ifCond .eq 10, 3) := by decide +kernel
theorem dX8_judge_8 : decode cX8_judge 8 = .ok (.iload_n 2, 1) := by decide +kernel
theorem dX8_judge_9 : decode cX8_judge 9 = .ok (.invokestatic 118, 3) := by decide +kernel
theorem dX8_judge_12 : decode cX8_judge 12 = .ok (.ifCond .ne 5, 3) := by decide +kernel
theorem dX8_judge_15 : decode cX8_judge 15 = .ok (.iconst (-1), 1) := by decide +kernel
theorem dX8_judge_16 : decode cX8_judge 16 = .ok (.ireturn, 1) := by decide +kernel
theorem dX8_judge_17 : decode cX8_judge 17 = .ok (.aload_n 0, 1) := by decide +kernel
theorem dX8_judge_18 : decode cX8_judge 18 = .ok (.getfield 13, 3) := by decide +kernel
theorem dX8_judge_21 : decode cX8_judge 21 = .ok (.iload_n 2, 1) := by decide +kernel
theorem dX8_judge_22 : decode cX8_judge 22 = .ok (.iaload, 1) := by decide +kernel
theorem dX8_judge_23 : decode cX8_judge 23 = .ok (.ifCond .ge 9, 3) := by decide +kernel
theorem dX8_judge_26 : decode cX8_judge 26 = .ok (.aload_n 0, 1) := by decide +kernel
theorem dX8_judge_27 : decode cX8_judge 27 = .ok (.iconst 1, 1) := by decide +kernel
theorem dX8_judge_28 : decode cX8_judge 28 = .ok (.invokevirtual 122, 3) := by decide +kernel
theorem dX8_judge_31 : decode cX8_judge 31 = .ok (.ireturn, 1) := by decide +kernel
theorem dX8_judge_32 : decode cX8_judge 32 = .ok (.aload_n 0, 1) := by decide +kernel
theorem dX8_judge_33 : decode cX8_judge 33 = .ok (.getfield 13, 3) := by decide +kernel
theorem dX8_judge_36 : decode cX8_judge 36 = .ok (.iload_n 2, 1) := by decide +kernel
theorem dX8_judge_37 : decode cX8_judge 37 = .ok (.iaload, 1) := by decide +kernel
theorem dX8_judge_38 : decode cX8_judge 38 = .ok (.aload_n 0, 1) := by decide +kernel
theorem dX8_judge_39 : decode cX8_judge 39 = .ok (.getfield 99, 3) := by decide +kernel
theorem dX8_judge_42 : decode cX8_judge 42 = .ok (.iconst 1, 1) := by decide +kernel
theorem dX8_judge_43 : decode cX8_judge 43 = .ok (.iadd, 1) := by decide +kernel
theorem dX8_judge_44 : decode cX8_judge 44 = .ok (.if_icmp .eq 9, 3) := by decide +kernel
theorem dX8_judge_47 : decode cX8_judge 47 = .ok (.aload_n 0, 1) := by decide +kernel
theorem dX8_judge_48 : decode cX8_judge 48 = .ok (.iconst 5, 1) := by decide +kernel
theorem dX8_judge_49 : decode cX8_judge 49 = .ok (.invokevirtual 122, 3) := by decide +kernel
theorem dX8_judge_52 : decode cX8_judge 52 = .ok (.ireturn, 1) := by decide +kernel
theorem dX8_judge_53 : decode cX8_judge 53 = .ok (.iconst 1, 1) := by decide +kernel
theorem dX8_judge_54 : decode cX8_judge 54 = .ok (.istore_n 3, 1) := by decide +kernel
theorem dX8_judge_55 : decode cX8_judge 55 = .ok (.iconst 0, 1) := by decide +kernel
theorem dX8_judge_56 : decode cX8_judge 56 = .ok (.istore 4, 2) := by decide +kernel
theorem dX8_judge_58 : decode cX8_judge 58 = .ok (.iload 4, 2) := by decide +kernel
theorem dX8_judge_60 : decode cX8_judge 60 = .ok (.aload_n 0, 1) := by decide +kernel
theorem dX8_judge_61 : decode cX8_judge 61 = .ok (.getfield 99, 3) := by decide +kernel
theorem dX8_judge_64 : decode cX8_judge 64 = .ok (.if_icmp .gt 33, 3) := by decide +kernel
theorem dX8_judge_67 : decode cX8_judge 67 = .ok (.iload_n 3, 1) := by decide +kernel
theorem dX8_judge_68 : decode cX8_judge 68 = .ok (.ifCond .eq 21, 3) := by decide +kernel
theorem dX8_judge_71 : decode cX8_judge 71 = .ok (.aload_n 0, 1) := by decide +kernel
theorem dX8_judge_72 : decode cX8_judge 72 = .ok (.aload_n 0, 1) := by decide +kernel
theorem dX8_judge_73 : decode cX8_judge 73 = .ok (.iload_n 2, 1) := by decide +kernel
theorem dX8_judge_74 : decode cX8_judge 74 = .ok (.iload 4, 2) := by decide +kernel
theorem dX8_judge_76 : decode cX8_judge 76 = .ok (.invokevirtual 126, 3) := by decide +kernel
theorem dX8_judge_79 : decode cX8_judge 79 = .ok (.invokevirtual 198, 3) := by decide +kernel
theorem dX8_judge_82 : decode cX8_judge 82 = .ok (.ifCond .eq 7, 3) := by decide +kernel
theorem dX8_judge_85 : decode cX8_judge 85 = .ok (.iconst 1, 1) := by decide +kernel
theorem dX8_judge_86 : decode cX8_judge 86 = .ok (.goto 4, 3) := by decide +kernel
theorem dX8_judge_89 : decode cX8_judge 89 = .ok (.iconst 0, 1) := by decide +kernel
theorem dX8_judge_90 : decode cX8_judge 90 = .ok (.istore_n 3, 1) := by decide +kernel
theorem dX8_judge_91 : decode cX8_judge 91 = .ok (.iinc 4 1, 3) := by decide +kernel
theorem dX8_judge_94 : decode cX8_judge 94 = .ok (.goto (-36), 3) := by decide +kernel
theorem dX8_judge_97 : decode cX8_judge 97 = .ok (.iload_n 3, 1) := by decide +kernel
theorem dX8_judge_98 : decode cX8_judge 98 = .ok (.ifCond .ne 9, 3) := by decide +kernel
theorem dX8_judge_101 : decode cX8_judge 101 = .ok (.aload_n 0, 1) := by decide +kernel
theorem dX8_judge_102 : decode cX8_judge 102 = .ok (.iconst 3, 1) := by decide +kernel
theorem dX8_judge_103 : decode cX8_judge 103 = .ok (.invokevirtual 122, 3) := by decide +kernel
theorem dX8_judge_106 : decode cX8_judge 106 = .ok (.ireturn, 1) := by decide +kernel
theorem dX8_judge_107 : decode cX8_judge 107 = .ok (.aload_n 0, 1) := by decide +kernel
theorem dX8_judge_108 : decode cX8_judge 108 = .ok (.invokevirtual 342, 3) := by decide +kernel
theorem dX8_judge_111 : decode cX8_judge 111 = .ok (.ifCond .ne 9, 3) := by decide +kernel
theorem dX8_judge_114 : decode cX8_judge 114 = .ok (.aload_n 0, 1) := by decide +kernel
theorem dX8_judge_115 : decode cX8_judge 115 = .ok (.iconst 4, 1) := by decide +kernel
theorem dX8_judge_116 : decode cX8_judge 116 = .ok (.invokevirtual 122, 3) := by decide +kernel
theorem dX8_judge_119 : decode cX8_judge 119 = .ok (.ireturn, 1) := by decide +kernel
theorem dX8_judge_120 : decode cX8_judge 120 = .ok (.aload_n 0, 1) := by decide +kernel
theorem dX8_judge_121 : decode cX8_judge 121 = .ok (.iconst 0, 1) := by decide +kernel
theorem dX8_judge_122 : decode cX8_judge 122 = .ok (.invokevirtual 349, 3) := by decide +kernel
theorem dX8_judge_125 : decode cX8_judge 125 = .ok (.iconst 0, 1) := by decide +kernel
theorem dX8_judge_126 : decode cX8_judge 126 = .ok (.istore 4, 2) := by decide +kernel
theorem dX8_judge_128 : decode cX8_judge 128 = .ok (.iload 4, 2) := by decide +kernel
theorem dX8_judge_130 : decode cX8_judge 130 = .ok (.aload_n 0, 1) := by decide +kernel
theorem dX8_judge_131 : decode cX8_judge 131 = .ok (.getfield 99, 3) := by decide +kernel
theorem dX8_judge_134 : decode cX8_judge 134 = .ok (.if_icmp .gt 42, 3) := by decide +kernel
theorem dX8_judge_137 : decode cX8_judge 137 = .ok (.aload_n 0, 1) := by decide +kernel
theorem dX8_judge_138 : decode cX8_judge 138 = .ok (.iload_n 1, 1) := by decide +kernel
theorem dX8_judge_139 : decode cX8_judge 139 = .ok (.aload_n 0, 1) := by decide +kernel
theorem dX8_judge_140 : decode cX8_judge 140 = .ok (.iload_n 2, 1) := by decide +kernel
theorem dX8_judge_141 : decode cX8_judge 141 = .ok (.iload 4, 2) := by decide +kernel
theorem dX8_judge_143 : decode cX8_judge 143 = .ok (.invokevirtual 126, 3) := by decide +kernel
theorem dX8_judge_146 : decode cX8_judge 146 = .ok (.invokevirtual 368, 3) := by decide +kernel
theorem dX8_judge_149 : decode cX8_judge 149 = .ok (.ifCond .ne 6, 3) := by decide +kernel
theorem dX8_judge_152 : decode cX8_judge 152 = .ok (.iload 4, 2) := by decide +kernel
theorem dX8_judge_154 : decode cX8_judge 154 = .ok (.ireturn, 1) := by decide +kernel
theorem dX8_judge_155 : decode cX8_judge 155 = .ok (.iload 4, 2) := by decide +kernel
theorem dX8_judge_157 : decode cX8_judge 157 = .ok (.aload_n 0, 1) := by decide +kernel
theorem dX8_judge_158 : decode cX8_judge 158 = .ok (.getfield 99, 3) := by decide +kernel
theorem dX8_judge_161 : decode cX8_judge 161 = .ok (.if_icmp .ge 9, 3) := by decide +kernel
theorem dX8_judge_164 : decode cX8_judge 164 = .ok (.aload_n 0, 1) := by decide +kernel
theorem dX8_judge_165 : decode cX8_judge 165 = .ok (.iload 4, 2) := by decide +kernel
theorem dX8_judge_167 : decode cX8_judge 167 = .ok (.invokevirtual 371, 3) := by decide +kernel
theorem dX8_judge_170 : decode cX8_judge 170 = .ok (.iinc 4 1, 3) := by decide +kernel
theorem dX8_judge_173 : decode cX8_judge 173 = .ok (.goto (-45), 3) := by decide +kernel
theorem dX8_judge_176 : decode cX8_judge 176 = .ok (.bipush (-9), 2) := by decide +kernel
theorem dX8_judge_178 : decode cX8_judge 178 = .ok (.ireturn, 1) := by decide +kernel
theorem dX8_leastRoom_0 : decode cX8_leastRoom 0 = .ok (.bipush 6, 2) := by decide +kernel
theorem dX8_leastRoom_2 : decode cX8_leastRoom 2 = .ok (.istore_n 2, 1) := by decide +kernel
theorem dX8_leastRoom_3 : decode cX8_leastRoom 3 = .ok (.iconst 0, 1) := by decide +kernel
theorem dX8_leastRoom_4 : decode cX8_leastRoom 4 = .ok (.istore_n 3, 1) := by decide +kernel
theorem dX8_leastRoom_5 : decode cX8_leastRoom 5 = .ok (.iload_n 3, 1) := by decide +kernel
theorem dX8_leastRoom_6 : decode cX8_leastRoom 6 = .ok (.aload_n 0, 1) := by decide +kernel
theorem dX8_leastRoom_7 : decode cX8_leastRoom 7 = .ok (.invokevirtual 286, 3) := by decide +kernel
theorem dX8_leastRoom_10 : decode cX8_leastRoom 10 = .ok (.if_icmp .ge 39, 3) := by decide +kernel
theorem dX8_leastRoom_13 : decode cX8_leastRoom 13 = .ok (.aload_n 0, 1) := by decide +kernel
theorem dX8_leastRoom_14 : decode cX8_leastRoom 14 = .ok (.getfield 82, 3) := by decide +kernel
theorem dX8_leastRoom_17 : decode cX8_leastRoom 17 = .ok (.iload_n 3, 1) := by decide +kernel
theorem dX8_leastRoom_18 : decode cX8_leastRoom 18 = .ok (.iaload, 1) := by decide +kernel
theorem dX8_leastRoom_19 : decode cX8_leastRoom 19 = .ok (.ifCond .lt 22, 3) := by decide +kernel
theorem dX8_leastRoom_22 : decode cX8_leastRoom 22 = .ok (.aload_n 0, 1) := by decide +kernel
theorem dX8_leastRoom_23 : decode cX8_leastRoom 23 = .ok (.iload_n 3, 1) := by decide +kernel
theorem dX8_leastRoom_24 : decode cX8_leastRoom 24 = .ok (.iload_n 1, 1) := by decide +kernel
theorem dX8_leastRoom_25 : decode cX8_leastRoom 25 = .ok (.invokevirtual 261, 3) := by decide +kernel
theorem dX8_leastRoom_28 : decode cX8_leastRoom 28 = .ok (.iload_n 2, 1) := by decide +kernel
theorem dX8_leastRoom_29 : decode cX8_leastRoom 29 = .ok (.if_icmp .ge 12, 3) := by decide +kernel
theorem dX8_leastRoom_32 : decode cX8_leastRoom 32 = .ok (.aload_n 0, 1) := by decide +kernel
theorem dX8_leastRoom_33 : decode cX8_leastRoom 33 = .ok (.iload_n 3, 1) := by decide +kernel
theorem dX8_leastRoom_34 : decode cX8_leastRoom 34 = .ok (.iload_n 1, 1) := by decide +kernel
theorem dX8_leastRoom_35 : decode cX8_leastRoom 35 = .ok (.invokevirtual 261, 3) := by decide +kernel
theorem dX8_leastRoom_38 : decode cX8_leastRoom 38 = .ok (.goto 4, 3) := by decide +kernel
theorem dX8_leastRoom_41 : decode cX8_leastRoom 41 = .ok (.iload_n 2, 1) := by decide +kernel
theorem dX8_leastRoom_42 : decode cX8_leastRoom 42 = .ok (.istore_n 2, 1) := by decide +kernel
theorem dX8_leastRoom_43 : decode cX8_leastRoom 43 = .ok (.iinc 3 1, 3) := by decide +kernel
theorem dX8_leastRoom_46 : decode cX8_leastRoom 46 = .ok (.goto (-41), 3) := by decide +kernel
theorem dX8_leastRoom_49 : decode cX8_leastRoom 49 = .ok (.iload_n 2, 1) := by decide +kernel
theorem dX8_leastRoom_50 : decode cX8_leastRoom 50 = .ok (.ireturn, 1) := by decide +kernel
theorem dX8_way_0 : decode cX8_way 0 = .ok (.aload_n 0, 1) := by decide +kernel
theorem dX8_way_1 : decode cX8_way 1 = .ok (.iload_n 1, 1) := by decide +kernel
theorem dX8_way_2 : decode cX8_way 2 = .ok (.invokevirtual 224, 3) := by decide +kernel
theorem dX8_way_5 : decode cX8_way 5 = .ok (.ifCond .eq 10, 3) := by decide +kernel
theorem dX8_way_8 : decode cX8_way 8 = .ok (.iload_n 2, 1) := by decide +kernel
theorem dX8_way_9 : decode cX8_way 9 = .ok (.invokestatic 118, 3) := by decide +kernel
theorem dX8_way_12 : decode cX8_way 12 = .ok (.ifCond .ne 5, 3) := by decide +kernel
theorem dX8_way_15 : decode cX8_way 15 = .ok (.iconst (-1), 1) := by decide +kernel
theorem dX8_way_16 : decode cX8_way 16 = .ok (.ireturn, 1) := by decide +kernel
theorem dX8_way_17 : decode cX8_way 17 = .ok (.aload_n 0, 1) := by decide +kernel
theorem dX8_way_18 : decode cX8_way 18 = .ok (.invokevirtual 342, 3) := by decide +kernel
theorem dX8_way_21 : decode cX8_way 21 = .ok (.ifCond .ne 9, 3) := by decide +kernel
theorem dX8_way_24 : decode cX8_way 24 = .ok (.aload_n 0, 1) := by decide +kernel
theorem dX8_way_25 : decode cX8_way 25 = .ok (.iconst 4, 1) := by decide +kernel
theorem dX8_way_26 : decode cX8_way 26 = .ok (.invokevirtual 122, 3) := by decide +kernel
theorem dX8_way_29 : decode cX8_way 29 = .ok (.ireturn, 1) := by decide +kernel
theorem dX8_way_30 : decode cX8_way 30 = .ok (.aload_n 0, 1) := by decide +kernel
theorem dX8_way_31 : decode cX8_way 31 = .ok (.iconst 0, 1) := by decide +kernel
theorem dX8_way_32 : decode cX8_way 32 = .ok (.invokevirtual 349, 3) := by decide +kernel
theorem dX8_way_35 : decode cX8_way 35 = .ok (.aload_n 0, 1) := by decide +kernel
theorem dX8_way_36 : decode cX8_way 36 = .ok (.getfield 13, 3) := by decide +kernel
theorem dX8_way_39 : decode cX8_way 39 = .ok (.iload_n 2, 1) := by decide +kernel
theorem dX8_way_40 : decode cX8_way 40 = .ok (.aload_n 0, 1) := by decide +kernel
theorem dX8_way_41 : decode cX8_way 41 = .ok (.getfield 99, 3) := by decide +kernel
theorem dX8_way_44 : decode cX8_way 44 = .ok (.iconst 1, 1) := by decide +kernel
theorem dX8_way_45 : decode cX8_way 45 = .ok (.iadd, 1) := by decide +kernel
theorem dX8_way_46 : decode cX8_way 46 = .ok (.iastore, 1) := by decide +kernel
theorem dX8_way_47 : decode cX8_way 47 = .ok (.iconst 0, 1) := by decide +kernel
theorem dX8_way_48 : decode cX8_way 48 = .ok (.istore_n 3, 1) := by decide +kernel
theorem dX8_way_49 : decode cX8_way 49 = .ok (.iload_n 3, 1) := by decide +kernel
theorem dX8_way_50 : decode cX8_way 50 = .ok (.bipush 40, 2) := by decide +kernel
theorem dX8_way_52 : decode cX8_way 52 = .ok (.if_icmp .ge 21, 3) := by decide +kernel
theorem dX8_way_55 : decode cX8_way 55 = .ok (.aload_n 0, 1) := by decide +kernel
theorem dX8_way_56 : decode cX8_way 56 = .ok (.getfield 16, 3) := by decide +kernel
theorem dX8_way_59 : decode cX8_way 59 = .ok (.bipush 40, 2) := by decide +kernel
theorem dX8_way_61 : decode cX8_way 61 = .ok (.iload_n 2, 1) := by decide +kernel
theorem dX8_way_62 : decode cX8_way 62 = .ok (.imul, 1) := by decide +kernel
theorem dX8_way_63 : decode cX8_way 63 = .ok (.iload_n 3, 1) := by decide +kernel
theorem dX8_way_64 : decode cX8_way 64 = .ok (.iadd, 1) := by decide +kernel
theorem dX8_way_65 : decode cX8_way 65 = .ok (.iconst 0, 1) := by decide +kernel
theorem dX8_way_66 : decode cX8_way 66 = .ok (.iastore, 1) := by decide +kernel
theorem dX8_way_67 : decode cX8_way 67 = .ok (.iinc 3 1, 3) := by decide +kernel
theorem dX8_way_70 : decode cX8_way 70 = .ok (.goto (-21), 3) := by decide +kernel
theorem dX8_way_73 : decode cX8_way 73 = .ok (.iconst 0, 1) := by decide +kernel
theorem dX8_way_74 : decode cX8_way 74 = .ok (.istore_n 3, 1) := by decide +kernel
theorem dX8_way_75 : decode cX8_way 75 = .ok (.iload_n 3, 1) := by decide +kernel
theorem dX8_way_76 : decode cX8_way 76 = .ok (.aload_n 0, 1) := by decide +kernel
theorem dX8_way_77 : decode cX8_way 77 = .ok (.getfield 99, 3) := by decide +kernel
theorem dX8_way_80 : decode cX8_way 80 = .ok (.if_icmp .gt 50, 3) := by decide +kernel
theorem dX8_way_83 : decode cX8_way 83 = .ok (.aload_n 0, 1) := by decide +kernel
theorem dX8_way_84 : decode cX8_way 84 = .ok (.iload_n 1, 1) := by decide +kernel
theorem dX8_way_85 : decode cX8_way 85 = .ok (.invokevirtual 374, 3) := by decide +kernel
theorem dX8_way_88 : decode cX8_way 88 = .ok (.istore 4, 2) := by decide +kernel
theorem dX8_way_90 : decode cX8_way 90 = .ok (.aload_n 0, 1) := by decide +kernel
theorem dX8_way_91 : decode cX8_way 91 = .ok (.getfield 16, 3) := by decide +kernel
theorem dX8_way_94 : decode cX8_way 94 = .ok (.bipush 40, 2) := by decide +kernel
theorem dX8_way_96 : decode cX8_way 96 = .ok (.iload_n 2, 1) := by decide +kernel
theorem dX8_way_97 : decode cX8_way 97 = .ok (.imul, 1) := by decide +kernel
theorem dX8_way_98 : decode cX8_way 98 = .ok (.iload_n 3, 1) := by decide +kernel
theorem dX8_way_99 : decode cX8_way 99 = .ok (.iadd, 1) := by decide +kernel
theorem dX8_way_100 : decode cX8_way 100 = .ok (.iload 4, 2) := by decide +kernel
theorem dX8_way_102 : decode cX8_way 102 = .ok (.iastore, 1) := by decide +kernel
theorem dX8_way_103 : decode cX8_way 103 = .ok (.aload_n 0, 1) := by decide +kernel
theorem dX8_way_104 : decode cX8_way 104 = .ok (.iload_n 1, 1) := by decide +kernel
theorem dX8_way_105 : decode cX8_way 105 = .ok (.iload 4, 2) := by decide +kernel
theorem dX8_way_107 : decode cX8_way 107 = .ok (.invokevirtual 368, 3) := by decide +kernel
theorem dX8_way_110 : decode cX8_way 110 = .ok (.pop, 1) := by decide +kernel
theorem dX8_way_111 : decode cX8_way 111 = .ok (.iload_n 3, 1) := by decide +kernel
theorem dX8_way_112 : decode cX8_way 112 = .ok (.aload_n 0, 1) := by decide +kernel
theorem dX8_way_113 : decode cX8_way 113 = .ok (.getfield 99, 3) := by decide +kernel
theorem dX8_way_116 : decode cX8_way 116 = .ok (.if_icmp .ge 8, 3) := by decide +kernel
theorem dX8_way_119 : decode cX8_way 119 = .ok (.aload_n 0, 1) := by decide +kernel
theorem dX8_way_120 : decode cX8_way 120 = .ok (.iload_n 3, 1) := by decide +kernel
theorem dX8_way_121 : decode cX8_way 121 = .ok (.invokevirtual 371, 3) := by decide +kernel
theorem dX8_way_124 : decode cX8_way 124 = .ok (.iinc 3 1, 3) := by decide +kernel
theorem dX8_way_127 : decode cX8_way 127 = .ok (.goto (-52), 3) := by decide +kernel
theorem dX8_way_130 : decode cX8_way 130 = .ok (.aload_n 0, 1) := by decide +kernel
theorem dX8_way_131 : decode cX8_way 131 = .ok (.getfield 99, 3) := by decide +kernel
theorem dX8_way_134 : decode cX8_way 134 = .ok (.iconst 1, 1) := by decide +kernel
theorem dX8_way_135 : decode cX8_way 135 = .ok (.iadd, 1) := by decide +kernel
theorem dX8_way_136 : decode cX8_way 136 = .ok (.ireturn, 1) := by decide +kernel
theorem dX8_layPassing_0 : decode cX8_layPassing 0 = .ok (.aload_n 0, 1) := by decide +kernel
theorem dX8_layPassing_1 : decode cX8_layPassing 1 = .ok (.iconst 0, 1) := by decide +kernel
theorem dX8_layPassing_2 : decode cX8_layPassing 2 = .ok (.putfield 377, 3) := by decide +kernel
theorem dX8_layPassing_5 : decode cX8_layPassing 5 = .ok (.aload_n 0, 1) := by decide +kernel
theorem dX8_layPassing_6 : decode cX8_layPassing 6 = .ok (.iconst 1, 1) := by decide +kernel
theorem dX8_layPassing_7 : decode cX8_layPassing 7 = .ok (.aload_n 0, 1) := by decide +kernel
theorem dX8_layPassing_8 : decode cX8_layPassing 8 = .ok (.getfield 240, 3) := by decide +kernel
theorem dX8_layPassing_11 : decode cX8_layPassing 11 = .ok (.ishl, 1) := by decide +kernel
theorem dX8_layPassing_12 : decode cX8_layPassing 12 = .ok (.iconst 1, 1) := by decide +kernel
theorem dX8_layPassing_13 : decode cX8_layPassing 13 = .ok (.isub, 1) := by decide +kernel
theorem dX8_layPassing_14 : decode cX8_layPassing 14 = .ok (.putfield 380, 3) := by decide +kernel
theorem dX8_layPassing_17 : decode cX8_layPassing 17 = .ok (.aload_n 0, 1) := by decide +kernel
theorem dX8_layPassing_18 : decode cX8_layPassing 18 = .ok (.iconst 0, 1) := by decide +kernel
theorem dX8_layPassing_19 : decode cX8_layPassing 19 = .ok (.putfield 383, 3) := by decide +kernel
theorem dX8_layPassing_22 : decode cX8_layPassing 22 = .ok (.aload_n 0, 1) := by decide +kernel
theorem dX8_layPassing_23 : decode cX8_layPassing 23 = .ok (.iconst 1, 1) := by decide +kernel
theorem dX8_layPassing_24 : decode cX8_layPassing 24 = .ok (.putfield 387, 3) := by decide +kernel
theorem dX8_layPassing_27 : decode cX8_layPassing 27 = .ok (.iconst 0, 1) := by decide +kernel
theorem dX8_layPassing_28 : decode cX8_layPassing 28 = .ok (.istore_n 3, 1) := by decide +kernel
theorem dX8_layPassing_29 : decode cX8_layPassing 29 = .ok (.iload_n 3, 1) := by decide +kernel
theorem dX8_layPassing_30 : decode cX8_layPassing 30 = .ok (.aload_n 0, 1) := by decide +kernel
theorem dX8_layPassing_31 : decode cX8_layPassing 31 = .ok (.invokevirtual 286, 3) := by decide +kernel
theorem dX8_layPassing_34 : decode cX8_layPassing 34 = .ok (.if_icmp .ge 179, 3) := by decide +kernel
theorem dX8_layPassing_37 : decode cX8_layPassing 37 = .ok (.aload_n 0, 1) := by decide +kernel
theorem dX8_layPassing_38 : decode cX8_layPassing 38 = .ok (.iload_n 2, 1) := by decide +kernel
theorem dX8_layPassing_39 : decode cX8_layPassing 39 = .ok (.iload_n 3, 1) := by decide +kernel
theorem dX8_layPassing_40 : decode cX8_layPassing 40 = .ok (.invokevirtual 333, 3) := by decide +kernel
theorem dX8_layPassing_43 : decode cX8_layPassing 43 = .ok (.ifCond .eq 164, 3) := by decide +kernel
theorem dX8_layPassing_46 : decode cX8_layPassing 46 = .ok (.aload_n 0, 1) := by decide +kernel
theorem dX8_layPassing_47 : decode cX8_layPassing 47 = .ok (.iload_n 2, 1) := by decide +kernel
theorem dX8_layPassing_48 : decode cX8_layPassing 48 = .ok (.iload_n 3, 1) := by decide +kernel
theorem dX8_layPassing_49 : decode cX8_layPassing 49 = .ok (.invokevirtual 297, 3) := by decide +kernel
theorem dX8_layPassing_52 : decode cX8_layPassing 52 = .ok (.iconst 0, 1) := by decide +kernel
theorem dX8_layPassing_53 : decode cX8_layPassing 53 = .ok (.istore 4, 2) := by decide +kernel
theorem dX8_layPassing_55 : decode cX8_layPassing 55 = .ok (.iload 4, 2) := by decide +kernel
theorem dX8_layPassing_57 : decode cX8_layPassing 57 = .ok (.aload_n 0, 1) := by decide +kernel
theorem dX8_layPassing_58 : decode cX8_layPassing 58 = .ok (.getfield 270, 3) := by decide +kernel
theorem dX8_layPassing_61 : decode cX8_layPassing 61 = .ok (.if_icmp .ge 146, 3) := by decide +kernel
theorem dX8_layPassing_64 : decode cX8_layPassing 64 = .ok (.aload_n 0, 1) := by decide +kernel
theorem dX8_layPassing_65 : decode cX8_layPassing 65 = .ok (.iload 4, 2) := by decide +kernel
theorem dX8_layPassing_67 : decode cX8_layPassing 67 = .ok (.invokevirtual 300, 3) := by decide +kernel
theorem dX8_layPassing_70 : decode cX8_layPassing 70 = .ok (.aload_n 0, 1) := by decide +kernel
theorem dX8_layPassing_71 : decode cX8_layPassing 71 = .ok (.iload_n 2, 1) := by decide +kernel
theorem dX8_layPassing_72 : decode cX8_layPassing 72 = .ok (.invokevirtual 303, 3) := by decide +kernel
theorem dX8_layPassing_75 : decode cX8_layPassing 75 = .ok (.ifCond .eq 126, 3) := by decide +kernel
theorem dX8_layPassing_78 : decode cX8_layPassing 78 = .ok (.aload_n 0, 1) := by decide +kernel
theorem dX8_layPassing_79 : decode cX8_layPassing 79 = .ok (.iload_n 2, 1) := by decide +kernel
theorem dX8_layPassing_80 : decode cX8_layPassing 80 = .ok (.iconst 1, 1) := by decide +kernel
theorem dX8_layPassing_81 : decode cX8_layPassing 81 = .ok (.iadd, 1) := by decide +kernel
theorem dX8_layPassing_82 : decode cX8_layPassing 82 = .ok (.aload_n 0, 1) := by decide +kernel
theorem dX8_layPassing_83 : decode cX8_layPassing 83 = .ok (.getfield 276, 3) := by decide +kernel
theorem dX8_layPassing_86 : decode cX8_layPassing 86 = .ok (.invokevirtual 333, 3) := by decide +kernel
theorem dX8_layPassing_89 : decode cX8_layPassing 89 = .ok (.ifCond .eq 112, 3) := by decide +kernel
theorem dX8_layPassing_92 : decode cX8_layPassing 92 = .ok (.iconst 0, 1) := by decide +kernel
theorem dX8_layPassing_93 : decode cX8_layPassing 93 = .ok (.istore 5, 2) := by decide +kernel
theorem dX8_layPassing_95 : decode cX8_layPassing 95 = .ok (.iconst 0, 1) := by decide +kernel
theorem dX8_layPassing_96 : decode cX8_layPassing 96 = .ok (.istore 6, 2) := by decide +kernel
theorem dX8_layPassing_98 : decode cX8_layPassing 98 = .ok (.iload 6, 2) := by decide +kernel
theorem dX8_layPassing_100 : decode cX8_layPassing 100 = .ok (.aload_n 0, 1) := by decide +kernel
theorem dX8_layPassing_101 : decode cX8_layPassing 101 = .ok (.getfield 240, 3) := by decide +kernel
theorem dX8_layPassing_104 : decode cX8_layPassing 104 = .ok (.if_icmp .ge 33, 3) := by decide +kernel
theorem dX8_layPassing_107 : decode cX8_layPassing 107 = .ok (.iload 5, 2) := by decide +kernel
theorem dX8_layPassing_109 : decode cX8_layPassing 109 = .ok (.aload_n 0, 1) := by decide +kernel
theorem dX8_layPassing_110 : decode cX8_layPassing 110 = .ok (.getfield 71, 3) := by decide +kernel
theorem dX8_layPassing_113 : decode cX8_layPassing 113 = .ok (.iload 6, 2) := by decide +kernel
theorem dX8_layPassing_115 : decode cX8_layPassing 115 = .ok (.iaload, 1) := by decide +kernel
theorem dX8_layPassing_116 : decode cX8_layPassing 116 = .ok (.iload_n 1, 1) := by decide +kernel
theorem dX8_layPassing_117 : decode cX8_layPassing 117 = .ok (.if_icmp .ne 10, 3) := by decide +kernel
theorem dX8_layPassing_120 : decode cX8_layPassing 120 = .ok (.iconst 1, 1) := by decide +kernel
theorem dX8_layPassing_121 : decode cX8_layPassing 121 = .ok (.iload 6, 2) := by decide +kernel
theorem dX8_layPassing_123 : decode cX8_layPassing 123 = .ok (.ishl, 1) := by decide +kernel
theorem dX8_layPassing_124 : decode cX8_layPassing 124 = .ok (.goto 4, 3) := by decide +kernel
theorem dX8_layPassing_127 : decode cX8_layPassing 127 = .ok (.iconst 0, 1) := by decide +kernel
theorem dX8_layPassing_128 : decode cX8_layPassing 128 = .ok (.ior, 1) := by decide +kernel
theorem dX8_layPassing_129 : decode cX8_layPassing 129 = .ok (.istore 5, 2) := by decide +kernel
theorem dX8_layPassing_131 : decode cX8_layPassing 131 = .ok (.iinc 6 1, 3) := by decide +kernel
theorem dX8_layPassing_134 : decode cX8_layPassing 134 = .ok (.goto (-36), 3) := by decide +kernel
theorem dX8_layPassing_137 : decode cX8_layPassing 137 = .ok (.aload_n 0, 1) := by decide +kernel
theorem dX8_layPassing_138 : decode cX8_layPassing 138 = .ok (.dup, 1) := by decide +kernel
theorem dX8_layPassing_139 : decode cX8_layPassing 139 = .ok (.getfield 377, 3) := by decide +kernel
theorem dX8_layPassing_142 : decode cX8_layPassing 142 = .ok (.iload 5, 2) := by decide +kernel
theorem dX8_layPassing_144 : decode cX8_layPassing 144 = .ok (.ior, 1) := by decide +kernel
theorem dX8_layPassing_145 : decode cX8_layPassing 145 = .ok (.putfield 377, 3) := by decide +kernel
theorem dX8_layPassing_148 : decode cX8_layPassing 148 = .ok (.aload_n 0, 1) := by decide +kernel
theorem dX8_layPassing_149 : decode cX8_layPassing 149 = .ok (.dup, 1) := by decide +kernel
theorem dX8_layPassing_150 : decode cX8_layPassing 150 = .ok (.getfield 380, 3) := by decide +kernel
theorem dX8_layPassing_153 : decode cX8_layPassing 153 = .ok (.iload 5, 2) := by decide +kernel
theorem dX8_layPassing_155 : decode cX8_layPassing 155 = .ok (.iand, 1) := by decide +kernel
theorem dX8_layPassing_156 : decode cX8_layPassing 156 = .ok (.putfield 380, 3) := by decide +kernel
theorem dX8_layPassing_159 : decode cX8_layPassing 159 = .ok (.aload_n 0, 1) := by decide +kernel
theorem dX8_layPassing_160 : decode cX8_layPassing 160 = .ok (.aload_n 0, 1) := by decide +kernel
theorem dX8_layPassing_161 : decode cX8_layPassing 161 = .ok (.getfield 383, 3) := by decide +kernel
theorem dX8_layPassing_164 : decode cX8_layPassing 164 = .ok (.ifCond .ne 8, 3) := by decide +kernel
theorem dX8_layPassing_167 : decode cX8_layPassing 167 = .ok (.iload 5, 2) := by decide +kernel
theorem dX8_layPassing_169 : decode cX8_layPassing 169 = .ok (.ifCond .eq 7, 3) := by decide +kernel
theorem dX8_layPassing_172 : decode cX8_layPassing 172 = .ok (.iconst 1, 1) := by decide +kernel
theorem dX8_layPassing_173 : decode cX8_layPassing 173 = .ok (.goto 4, 3) := by decide +kernel
theorem dX8_layPassing_176 : decode cX8_layPassing 176 = .ok (.iconst 0, 1) := by decide +kernel
theorem dX8_layPassing_177 : decode cX8_layPassing 177 = .ok (.putfield 383, 3) := by decide +kernel
theorem dX8_layPassing_180 : decode cX8_layPassing 180 = .ok (.aload_n 0, 1) := by decide +kernel
theorem dX8_layPassing_181 : decode cX8_layPassing 181 = .ok (.aload_n 0, 1) := by decide +kernel
theorem dX8_layPassing_182 : decode cX8_layPassing 182 = .ok (.getfield 387, 3) := by decide +kernel
theorem dX8_layPassing_185 : decode cX8_layPassing 185 = .ok (.ifCond .eq 12, 3) := by decide +kernel
theorem dX8_layPassing_188 : decode cX8_layPassing 188 = .ok (.iload 5, 2) := by decide +kernel
theorem dX8_layPassing_190 : decode cX8_layPassing 190 = .ok (.ifCond .eq 7, 3) := by decide +kernel
theorem dX8_layPassing_193 : decode cX8_layPassing 193 = .ok (.iconst 1, 1) := by decide +kernel
theorem dX8_layPassing_194 : decode cX8_layPassing 194 = .ok (.goto 4, 3) := by decide +kernel
theorem dX8_layPassing_197 : decode cX8_layPassing 197 = .ok (.iconst 0, 1) := by decide +kernel
theorem dX8_layPassing_198 : decode cX8_layPassing 198 = .ok (.putfield 387, 3) := by decide +kernel
theorem dX8_layPassing_201 : decode cX8_layPassing 201 = .ok (.iinc 4 1, 3) := by decide +kernel
theorem dX8_layPassing_204 : decode cX8_layPassing 204 = .ok (.goto (-149), 3) := by decide +kernel
theorem dX8_layPassing_207 : decode cX8_layPassing 207 = .ok (.iinc 3 1, 3) := by decide +kernel
theorem dX8_layPassing_210 : decode cX8_layPassing 210 = .ok (.goto (-181), 3) := by decide +kernel
theorem dX8_layPassing_213 : decode cX8_layPassing 213 = .ok (.return_, 1) := by decide +kernel
theorem dX8_whose_0 : decode cX8_whose 0 = .ok (.aload_n 0, 1) := by decide +kernel
theorem dX8_whose_1 : decode cX8_whose 1 = .ok (.iload_n 1, 1) := by decide +kernel
theorem dX8_whose_2 : decode cX8_whose 2 = .ok (.invokevirtual 231, 3) := by decide +kernel
theorem dX8_whose_5 : decode cX8_whose 5 = .ok (.ifCond .ne 5, 3) := by decide +kernel
theorem dX8_whose_8 : decode cX8_whose 8 = .ok (.iconst (-1), 1) := by decide +kernel
theorem dX8_whose_9 : decode cX8_whose 9 = .ok (.ireturn, 1) := by decide +kernel
theorem dX8_whose_10 : decode cX8_whose 10 = .ok (.aload_n 0, 1) := by decide +kernel
theorem dX8_whose_11 : decode cX8_whose 11 = .ok (.iload_n 1, 1) := by decide +kernel
theorem dX8_whose_12 : decode cX8_whose 12 = .ok (.iconst 0, 1) := by decide +kernel
theorem dX8_whose_13 : decode cX8_whose 13 = .ok (.invokevirtual 234, 3) := by decide +kernel
theorem dX8_whose_16 : decode cX8_whose 16 = .ok (.iconst 1, 1) := by decide +kernel
theorem dX8_whose_17 : decode cX8_whose 17 = .ok (.if_icmp .eq 9, 3) := by decide +kernel
theorem dX8_whose_20 : decode cX8_whose 20 = .ok (.aload_n 0, 1) := by decide +kernel
theorem dX8_whose_21 : decode cX8_whose 21 = .ok (.iconst 3, 1) := by decide +kernel
theorem dX8_whose_22 : decode cX8_whose 22 = .ok (.invokevirtual 122, 3) := by decide +kernel
theorem dX8_whose_25 : decode cX8_whose 25 = .ok (.ireturn, 1) := by decide +kernel
theorem dX8_whose_26 : decode cX8_whose 26 = .ok (.aload_n 0, 1) := by decide +kernel
theorem dX8_whose_27 : decode cX8_whose 27 = .ok (.invokevirtual 342, 3) := by decide +kernel
theorem dX8_whose_30 : decode cX8_whose 30 = .ok (.ifCond .ne 9, 3) := by decide +kernel
theorem dX8_whose_33 : decode cX8_whose 33 = .ok (.aload_n 0, 1) := by decide +kernel
theorem dX8_whose_34 : decode cX8_whose 34 = .ok (.iconst 4, 1) := by decide +kernel
theorem dX8_whose_35 : decode cX8_whose 35 = .ok (.invokevirtual 122, 3) := by decide +kernel
theorem dX8_whose_38 : decode cX8_whose 38 = .ok (.ireturn, 1) := by decide +kernel
theorem dX8_whose_39 : decode cX8_whose 39 = .ok (.aload_n 0, 1) := by decide +kernel
theorem dX8_whose_40 : decode cX8_whose 40 = .ok (.aload_n 0, 1) := by decide +kernel
theorem dX8_whose_41 : decode cX8_whose 41 = .ok (.iload_n 1, 1) := by decide +kernel
theorem dX8_whose_42 : decode cX8_whose 42 = .ok (.iconst 1, 1) := by decide +kernel
theorem dX8_whose_43 : decode cX8_whose 43 = .ok (.invokevirtual 234, 3) := by decide +kernel
theorem dX8_whose_46 : decode cX8_whose 46 = .ok (.aload_n 0, 1) := by decide +kernel
theorem dX8_whose_47 : decode cX8_whose 47 = .ok (.iload_n 1, 1) := by decide +kernel
theorem dX8_whose_48 : decode cX8_whose 48 = .ok (.iconst 3, 1) := by decide +kernel
theorem dX8_whose_49 : decode cX8_whose 49 = .ok (.invokevirtual 234, 3) := by decide +kernel
theorem dX8_whose_52 : decode cX8_whose 52 = .ok (.invokevirtual 390, 3) := by decide +kernel
theorem dX8_whose_55 : decode cX8_whose 55 = .ok (.aload_n 0, 1) := by decide +kernel
theorem dX8_whose_56 : decode cX8_whose 56 = .ok (.aload_n 0, 1) := by decide +kernel
theorem dX8_whose_57 : decode cX8_whose 57 = .ok (.getfield 380, 3) := by decide +kernel
theorem dX8_whose_60 : decode cX8_whose 60 = .ok (.aload_n 0, 1) := by decide +kernel
theorem dX8_whose_61 : decode cX8_whose 61 = .ok (.getfield 377, 3) := by decide +kernel
theorem dX8_whose_64 : decode cX8_whose 64 = .ok (.invokevirtual 130, 3) := by decide +kernel
theorem dX8_whose_67 : decode cX8_whose 67 = .ok (.ireturn, 1) := by decide +kernel
theorem dX8_same_0 : decode cX8_same 0 = .ok (.aload_n 0, 1) := by decide +kernel
theorem dX8_same_1 : decode cX8_same 1 = .ok (.iload_n 1, 1) := by decide +kernel
theorem dX8_same_2 : decode cX8_same 2 = .ok (.invokevirtual 231, 3) := by decide +kernel
theorem dX8_same_5 : decode cX8_same 5 = .ok (.ifCond .ne 5, 3) := by decide +kernel
theorem dX8_same_8 : decode cX8_same 8 = .ok (.iconst (-1), 1) := by decide +kernel
theorem dX8_same_9 : decode cX8_same 9 = .ok (.ireturn, 1) := by decide +kernel
theorem dX8_same_10 : decode cX8_same 10 = .ok (.aload_n 0, 1) := by decide +kernel
theorem dX8_same_11 : decode cX8_same 11 = .ok (.iload_n 1, 1) := by decide +kernel
theorem dX8_same_12 : decode cX8_same 12 = .ok (.iconst 2, 1) := by decide +kernel
theorem dX8_same_13 : decode cX8_same 13 = .ok (.invokevirtual 237, 3) := by decide +kernel
theorem dX8_same_16 : decode cX8_same 16 = .ok (.ifCond .ne 9, 3) := by decide +kernel
theorem dX8_same_19 : decode cX8_same 19 = .ok (.aload_n 0, 1) := by decide +kernel
theorem dX8_same_20 : decode cX8_same 20 = .ok (.iconst 3, 1) := by decide +kernel
theorem dX8_same_21 : decode cX8_same 21 = .ok (.invokevirtual 122, 3) := by decide +kernel
theorem dX8_same_24 : decode cX8_same 24 = .ok (.ireturn, 1) := by decide +kernel
theorem dX8_same_25 : decode cX8_same 25 = .ok (.aload_n 0, 1) := by decide +kernel
theorem dX8_same_26 : decode cX8_same 26 = .ok (.invokevirtual 342, 3) := by decide +kernel
theorem dX8_same_29 : decode cX8_same 29 = .ok (.ifCond .ne 9, 3) := by decide +kernel
theorem dX8_same_32 : decode cX8_same 32 = .ok (.aload_n 0, 1) := by decide +kernel
theorem dX8_same_33 : decode cX8_same 33 = .ok (.iconst 4, 1) := by decide +kernel
theorem dX8_same_34 : decode cX8_same 34 = .ok (.invokevirtual 122, 3) := by decide +kernel
theorem dX8_same_37 : decode cX8_same 37 = .ok (.ireturn, 1) := by decide +kernel
theorem dX8_same_38 : decode cX8_same 38 = .ok (.iconst 0, 1) := by decide +kernel
theorem dX8_same_39 : decode cX8_same 39 = .ok (.istore_n 2, 1) := by decide +kernel
theorem dX8_same_40 : decode cX8_same 40 = .ok (.iconst 1, 1) := by decide +kernel
theorem dX8_same_41 : decode cX8_same 41 = .ok (.aload_n 0, 1) := by decide +kernel
theorem dX8_same_42 : decode cX8_same 42 = .ok (.getfield 240, 3) := by decide +kernel
theorem dX8_same_45 : decode cX8_same 45 = .ok (.ishl, 1) := by decide +kernel
theorem dX8_same_46 : decode cX8_same 46 = .ok (.iconst 1, 1) := by decide +kernel
theorem dX8_same_47 : decode cX8_same 47 = .ok (.isub, 1) := by decide +kernel
theorem dX8_same_48 : decode cX8_same 48 = .ok (.istore_n 3, 1) := by decide +kernel
theorem dX8_same_49 : decode cX8_same 49 = .ok (.iconst 0, 1) := by decide +kernel
theorem dX8_same_50 : decode cX8_same 50 = .ok (.istore 4, 2) := by decide +kernel
theorem dX8_same_52 : decode cX8_same 52 = .ok (.iload 4, 2) := by decide +kernel
theorem dX8_same_54 : decode cX8_same 54 = .ok (.aload_n 0, 1) := by decide +kernel
theorem dX8_same_55 : decode cX8_same 55 = .ok (.invokevirtual 286, 3) := by decide +kernel
theorem dX8_same_58 : decode cX8_same 58 = .ok (.if_icmp .ge 85, 3) := by decide +kernel
theorem dX8_same_61 : decode cX8_same 61 = .ok (.aload_n 0, 1) := by decide +kernel
theorem dX8_same_62 : decode cX8_same 62 = .ok (.aload_n 0, 1) := by decide +kernel
theorem dX8_same_63 : decode cX8_same 63 = .ok (.iload_n 1, 1) := by decide +kernel
theorem dX8_same_64 : decode cX8_same 64 = .ok (.iconst 3, 1) := by decide +kernel
theorem dX8_same_65 : decode cX8_same 65 = .ok (.invokevirtual 234, 3) := by decide +kernel
theorem dX8_same_68 : decode cX8_same 68 = .ok (.iload 4, 2) := by decide +kernel
theorem dX8_same_70 : decode cX8_same 70 = .ok (.invokevirtual 333, 3) := by decide +kernel
theorem dX8_same_73 : decode cX8_same 73 = .ok (.ifCond .eq 64, 3) := by decide +kernel
theorem dX8_same_76 : decode cX8_same 76 = .ok (.iconst 0, 1) := by decide +kernel
theorem dX8_same_77 : decode cX8_same 77 = .ok (.istore 5, 2) := by decide +kernel
theorem dX8_same_79 : decode cX8_same 79 = .ok (.iconst 0, 1) := by decide +kernel
theorem dX8_same_80 : decode cX8_same 80 = .ok (.istore 6, 2) := by decide +kernel
theorem dX8_same_82 : decode cX8_same 82 = .ok (.iload 6, 2) := by decide +kernel
theorem dX8_same_84 : decode cX8_same 84 = .ok (.aload_n 0, 1) := by decide +kernel
theorem dX8_same_85 : decode cX8_same 85 = .ok (.getfield 240, 3) := by decide +kernel
theorem dX8_same_88 : decode cX8_same 88 = .ok (.if_icmp .ge 39, 3) := by decide +kernel
theorem dX8_same_91 : decode cX8_same 91 = .ok (.iload 5, 2) := by decide +kernel
theorem dX8_same_93 : decode cX8_same 93 = .ok (.aload_n 0, 1) := by decide +kernel
theorem dX8_same_94 : decode cX8_same 94 = .ok (.iload 4, 2) := by decide +kernel
theorem dX8_same_96 : decode cX8_same 96 = .ok (.iload 6, 2) := by decide +kernel
theorem dX8_same_98 : decode cX8_same 98 = .ok (.invokevirtual 261, 3) := by decide +kernel
theorem dX8_same_101 : decode cX8_same 101 = .ok (.aload_n 0, 1) := by decide +kernel
theorem dX8_same_102 : decode cX8_same 102 = .ok (.iload_n 1, 1) := by decide +kernel
theorem dX8_same_103 : decode cX8_same 103 = .ok (.iconst 1, 1) := by decide +kernel
theorem dX8_same_104 : decode cX8_same 104 = .ok (.invokevirtual 234, 3) := by decide +kernel
theorem dX8_same_107 : decode cX8_same 107 = .ok (.if_icmp .ne 10, 3) := by decide +kernel
theorem dX8_same_110 : decode cX8_same 110 = .ok (.iconst 1, 1) := by decide +kernel
theorem dX8_same_111 : decode cX8_same 111 = .ok (.iload 6, 2) := by decide +kernel
theorem dX8_same_113 : decode cX8_same 113 = .ok (.ishl, 1) := by decide +kernel
theorem dX8_same_114 : decode cX8_same 114 = .ok (.goto 4, 3) := by decide +kernel
theorem dX8_same_117 : decode cX8_same 117 = .ok (.iconst 0, 1) := by decide +kernel
theorem dX8_same_118 : decode cX8_same 118 = .ok (.ior, 1) := by decide +kernel
theorem dX8_same_119 : decode cX8_same 119 = .ok (.istore 5, 2) := by decide +kernel
theorem dX8_same_121 : decode cX8_same 121 = .ok (.iinc 6 1, 3) := by decide +kernel
theorem dX8_same_124 : decode cX8_same 124 = .ok (.goto (-42), 3) := by decide +kernel
theorem dX8_same_127 : decode cX8_same 127 = .ok (.iload_n 2, 1) := by decide +kernel
theorem dX8_same_128 : decode cX8_same 128 = .ok (.iload 5, 2) := by decide +kernel
theorem dX8_same_130 : decode cX8_same 130 = .ok (.ior, 1) := by decide +kernel
theorem dX8_same_131 : decode cX8_same 131 = .ok (.istore_n 2, 1) := by decide +kernel
theorem dX8_same_132 : decode cX8_same 132 = .ok (.iload_n 3, 1) := by decide +kernel
theorem dX8_same_133 : decode cX8_same 133 = .ok (.iload 5, 2) := by decide +kernel
theorem dX8_same_135 : decode cX8_same 135 = .ok (.iand, 1) := by decide +kernel
theorem dX8_same_136 : decode cX8_same 136 = .ok (.istore_n 3, 1) := by decide +kernel
theorem dX8_same_137 : decode cX8_same 137 = .ok (.iinc 4 1, 3) := by decide +kernel
theorem dX8_same_140 : decode cX8_same 140 = .ok (.goto (-88), 3) := by decide +kernel
theorem dX8_same_143 : decode cX8_same 143 = .ok (.aload_n 0, 1) := by decide +kernel
theorem dX8_same_144 : decode cX8_same 144 = .ok (.iload_n 3, 1) := by decide +kernel
theorem dX8_same_145 : decode cX8_same 145 = .ok (.iload_n 2, 1) := by decide +kernel
theorem dX8_same_146 : decode cX8_same 146 = .ok (.invokevirtual 130, 3) := by decide +kernel
theorem dX8_same_149 : decode cX8_same 149 = .ok (.ireturn, 1) := by decide +kernel
theorem dX8_layMinutes_0 : decode cX8_layMinutes 0 = .ok (.aload_n 0, 1) := by decide +kernel
theorem dX8_layMinutes_1 : decode cX8_layMinutes 1 = .ok (.iconst 0, 1) := by decide +kernel
theorem dX8_layMinutes_2 : decode cX8_layMinutes 2 = .ok (.putfield 393, 3) := by decide +kernel
theorem dX8_layMinutes_5 : decode cX8_layMinutes 5 = .ok (.aload_n 0, 1) := by decide +kernel
theorem dX8_layMinutes_6 : decode cX8_layMinutes 6 = .ok (.iconst 0, 1) := by decide +kernel
theorem dX8_layMinutes_7 : decode cX8_layMinutes 7 = .ok (.putfield 396, 3) := by decide +kernel
theorem dX8_layMinutes_10 : decode cX8_layMinutes 10 = .ok (.iconst 0, 1) := by decide +kernel
theorem dX8_layMinutes_11 : decode cX8_layMinutes 11 = .ok (.istore_n 2, 1) := by decide +kernel
theorem dX8_layMinutes_12 : decode cX8_layMinutes 12 = .ok (.iload_n 2, 1) := by decide +kernel
theorem dX8_layMinutes_13 : decode cX8_layMinutes 13 = .ok (.aload_n 0, 1) := by decide +kernel
theorem dX8_layMinutes_14 : decode cX8_layMinutes 14 = .ok (.getfield 99, 3) := by decide +kernel
theorem dX8_layMinutes_17 : decode cX8_layMinutes 17 = .ok (.if_icmp .ge 57, 3) := by decide +kernel
theorem dX8_layMinutes_20 : decode cX8_layMinutes 20 = .ok (.aload_n 0, 1) := by decide +kernel
theorem dX8_layMinutes_21 : decode cX8_layMinutes 21 = .ok (.iload_n 1, 1) := by decide +kernel
theorem dX8_layMinutes_22 : decode cX8_layMinutes 22 = .ok (.iload_n 2, 1) := by decide +kernel
theorem dX8_layMinutes_23 : decode cX8_layMinutes 23 = .ok (.invokevirtual 390, 3) := by decide +kernel
theorem dX8_layMinutes_26 : decode cX8_layMinutes 26 = .ok (.aload_n 0, 1) := by decide +kernel
theorem dX8_layMinutes_27 : decode cX8_layMinutes 27 = .ok (.dup, 1) := by decide +kernel
theorem dX8_layMinutes_28 : decode cX8_layMinutes 28 = .ok (.getfield 393, 3) := by decide +kernel
theorem dX8_layMinutes_31 : decode cX8_layMinutes 31 = .ok (.aload_n 0, 1) := by decide +kernel
theorem dX8_layMinutes_32 : decode cX8_layMinutes 32 = .ok (.getfield 383, 3) := by decide +kernel
theorem dX8_layMinutes_35 : decode cX8_layMinutes 35 = .ok (.ifCond .eq 7, 3) := by decide +kernel
theorem dX8_layMinutes_38 : decode cX8_layMinutes 38 = .ok (.iconst 1, 1) := by decide +kernel
theorem dX8_layMinutes_39 : decode cX8_layMinutes 39 = .ok (.goto 4, 3) := by decide +kernel
theorem dX8_layMinutes_42 : decode cX8_layMinutes 42 = .ok (.iconst 0, 1) := by decide +kernel
theorem dX8_layMinutes_43 : decode cX8_layMinutes 43 = .ok (.iadd, 1) := by decide +kernel
theorem dX8_layMinutes_44 : decode cX8_layMinutes 44 = .ok (.putfield 393, 3) := by decide +kernel
theorem dX8_layMinutes_47 : decode cX8_layMinutes 47 = .ok (.aload_n 0, 1) := by decide +kernel
theorem dX8_layMinutes_48 : decode cX8_layMinutes 48 = .ok (.dup, 1) := by decide +kernel
theorem dX8_layMinutes_49 : decode cX8_layMinutes 49 = .ok (.getfield 396, 3) := by decide +kernel
theorem dX8_layMinutes_52 : decode cX8_layMinutes 52 = .ok (.aload_n 0, 1) := by decide +kernel
theorem dX8_layMinutes_53 : decode cX8_layMinutes 53 = .ok (.getfield 387, 3) := by decide +kernel
theorem dX8_layMinutes_56 : decode cX8_layMinutes 56 = .ok (.ifCond .eq 7, 3) := by decide +kernel
theorem dX8_layMinutes_59 : decode cX8_layMinutes 59 = .ok (.iconst 1, 1) := by decide +kernel
theorem dX8_layMinutes_60 : decode cX8_layMinutes 60 = .ok (.goto 4, 3) := by decide +kernel
theorem dX8_layMinutes_63 : decode cX8_layMinutes 63 = .ok (.iconst 0, 1) := by decide +kernel
theorem dX8_layMinutes_64 : decode cX8_layMinutes 64 = .ok (.iadd, 1) := by decide +kernel
theorem dX8_layMinutes_65 : decode cX8_layMinutes 65 = .ok (.putfield 396, 3) := by decide +kernel
theorem dX8_layMinutes_68 : decode cX8_layMinutes 68 = .ok (.iinc 2 1, 3) := by decide +kernel
theorem dX8_layMinutes_71 : decode cX8_layMinutes 71 = .ok (.goto (-59), 3) := by decide +kernel
theorem dX8_layMinutes_74 : decode cX8_layMinutes 74 = .ok (.return_, 1) := by decide +kernel
theorem dX8_passes_0 : decode cX8_passes 0 = .ok (.aload_n 0, 1) := by decide +kernel
theorem dX8_passes_1 : decode cX8_passes 1 = .ok (.iload_n 1, 1) := by decide +kernel
theorem dX8_passes_2 : decode cX8_passes 2 = .ok (.invokevirtual 192, 3) := by decide +kernel
theorem dX8_passes_5 : decode cX8_passes 5 = .ok (.ifCond .ne 5, 3) := by decide +kernel
theorem dX8_passes_8 : decode cX8_passes 8 = .ok (.iconst (-1), 1) := by decide +kernel
theorem dX8_passes_9 : decode cX8_passes 9 = .ok (.ireturn, 1) := by decide +kernel
theorem dX8_passes_10 : decode cX8_passes 10 = .ok (.aload_n 0, 1) := by decide +kernel
theorem dX8_passes_11 : decode cX8_passes 11 = .ok (.invokevirtual 342, 3) := by decide +kernel
theorem dX8_passes_14 : decode cX8_passes 14 = .ok (.ifCond .ne 9, 3) := by decide +kernel
theorem dX8_passes_17 : decode cX8_passes 17 = .ok (.aload_n 0, 1) := by decide +kernel
theorem dX8_passes_18 : decode cX8_passes 18 = .ok (.iconst 4, 1) := by decide +kernel
theorem dX8_passes_19 : decode cX8_passes 19 = .ok (.invokevirtual 122, 3) := by decide +kernel
theorem dX8_passes_22 : decode cX8_passes 22 = .ok (.ireturn, 1) := by decide +kernel
theorem dX8_passes_23 : decode cX8_passes 23 = .ok (.aload_n 0, 1) := by decide +kernel
theorem dX8_passes_24 : decode cX8_passes 24 = .ok (.iload_n 1, 1) := by decide +kernel
theorem dX8_passes_25 : decode cX8_passes 25 = .ok (.invokevirtual 399, 3) := by decide +kernel
theorem dX8_passes_28 : decode cX8_passes 28 = .ok (.aload_n 0, 1) := by decide +kernel
theorem dX8_passes_29 : decode cX8_passes 29 = .ok (.aload_n 0, 1) := by decide +kernel
theorem dX8_passes_30 : decode cX8_passes 30 = .ok (.getfield 396, 3) := by decide +kernel
theorem dX8_passes_33 : decode cX8_passes 33 = .ok (.aload_n 0, 1) := by decide +kernel
theorem dX8_passes_34 : decode cX8_passes 34 = .ok (.getfield 393, 3) := by decide +kernel
theorem dX8_passes_37 : decode cX8_passes 37 = .ok (.invokevirtual 130, 3) := by decide +kernel
theorem dX8_passes_40 : decode cX8_passes 40 = .ok (.ireturn, 1) := by decide +kernel
theorem dX8_third_0 : decode cX8_third 0 = .ok (.aload_n 0, 1) := by decide +kernel
theorem dX8_third_1 : decode cX8_third 1 = .ok (.invokevirtual 342, 3) := by decide +kernel
theorem dX8_third_4 : decode cX8_third 4 = .ok (.ifCond .ne 9, 3) := by decide +kernel
theorem dX8_third_7 : decode cX8_third 7 = .ok (.aload_n 0, 1) := by decide +kernel
theorem dX8_third_8 : decode cX8_third 8 = .ok (.iconst 4, 1) := by decide +kernel
theorem dX8_third_9 : decode cX8_third 9 = .ok (.invokevirtual 122, 3) := by decide +kernel
theorem dX8_third_12 : decode cX8_third 12 = .ok (.ireturn, 1) := by decide +kernel
theorem dX8_third_13 : decode cX8_third 13 = .ok (.bipush (-9), 2) := by decide +kernel
theorem dX8_third_15 : decode cX8_third 15 = .ok (.istore_n 1, 1) := by decide +kernel
theorem dX8_third_16 : decode cX8_third 16 = .ok (.iconst (-1), 1) := by decide +kernel
theorem dX8_third_17 : decode cX8_third 17 = .ok (.istore_n 2, 1) := by decide +kernel
theorem dX8_third_18 : decode cX8_third 18 = .ok (.iconst 0, 1) := by decide +kernel
theorem dX8_third_19 : decode cX8_third 19 = .ok (.istore_n 3, 1) := by decide +kernel
theorem dX8_third_20 : decode cX8_third 20 = .ok (.iload_n 3, 1) := by decide +kernel
theorem dX8_third_21 : decode cX8_third 21 = .ok (.aload_n 0, 1) := by decide +kernel
theorem dX8_third_22 : decode cX8_third 22 = .ok (.getfield 183, 3) := by decide +kernel
theorem dX8_third_25 : decode cX8_third 25 = .ok (.if_icmp .ge 47, 3) := by decide +kernel
theorem dX8_third_28 : decode cX8_third 28 = .ok (.aload_n 0, 1) := by decide +kernel
theorem dX8_third_29 : decode cX8_third 29 = .ok (.iload_n 3, 1) := by decide +kernel
theorem dX8_third_30 : decode cX8_third 30 = .ok (.invokevirtual 195, 3) := by decide +kernel
theorem dX8_third_33 : decode cX8_third 33 = .ok (.ifCond .ne 33, 3) := by decide +kernel
theorem dX8_third_36 : decode cX8_third 36 = .ok (.aload_n 0, 1) := by decide +kernel
theorem dX8_third_37 : decode cX8_third 37 = .ok (.iload_n 3, 1) := by decide +kernel
theorem dX8_third_38 : decode cX8_third 38 = .ok (.invokevirtual 399, 3) := by decide +kernel
theorem dX8_third_41 : decode cX8_third 41 = .ok (.aload_n 0, 1) := by decide +kernel
theorem dX8_third_42 : decode cX8_third 42 = .ok (.getfield 393, 3) := by decide +kernel
theorem dX8_third_45 : decode cX8_third 45 = .ok (.aload_n 0, 1) := by decide +kernel
theorem dX8_third_46 : decode cX8_third 46 = .ok (.getfield 396, 3) := by decide +kernel
theorem dX8_third_49 : decode cX8_third 49 = .ok (.isub, 1) := by decide +kernel
theorem dX8_third_50 : decode cX8_third 50 = .ok (.iload_n 2, 1) := by decide +kernel
theorem dX8_third_51 : decode cX8_third 51 = .ok (.if_icmp .le 15, 3) := by decide +kernel
theorem dX8_third_54 : decode cX8_third 54 = .ok (.iload_n 3, 1) := by decide +kernel
theorem dX8_third_55 : decode cX8_third 55 = .ok (.istore_n 1, 1) := by decide +kernel
theorem dX8_third_56 : decode cX8_third 56 = .ok (.aload_n 0, 1) := by decide +kernel
theorem dX8_third_57 : decode cX8_third 57 = .ok (.getfield 393, 3) := by decide +kernel
theorem dX8_third_60 : decode cX8_third 60 = .ok (.aload_n 0, 1) := by decide +kernel
theorem dX8_third_61 : decode cX8_third 61 = .ok (.getfield 396, 3) := by decide +kernel
theorem dX8_third_64 : decode cX8_third 64 = .ok (.isub, 1) := by decide +kernel
theorem dX8_third_65 : decode cX8_third 65 = .ok (.istore_n 2, 1) := by decide +kernel
theorem dX8_third_66 : decode cX8_third 66 = .ok (.iinc 3 1, 3) := by decide +kernel
theorem dX8_third_69 : decode cX8_third 69 = .ok (.goto (-49), 3) := by decide +kernel
theorem dX8_third_72 : decode cX8_third 72 = .ok (.iload_n 1, 1) := by decide +kernel
theorem dX8_third_73 : decode cX8_third 73 = .ok (.bipush (-9), 2) := by decide +kernel
theorem dX8_third_75 : decode cX8_third 75 = .ok (.if_icmp .ne 8, 3) := by decide +kernel
theorem dX8_third_78 : decode cX8_third 78 = .ok (.bipush (-9), 2) := by decide +kernel
theorem dX8_third_80 : decode cX8_third 80 = .ok (.goto 9, 3) := by decide +kernel
theorem dX8_third_83 : decode cX8_third 83 = .ok (.aload_n 0, 1) := by decide +kernel
theorem dX8_third_84 : decode cX8_third 84 = .ok (.iload_n 2, 1) := by decide +kernel
theorem dX8_third_85 : decode cX8_third 85 = .ok (.iload_n 1, 1) := by decide +kernel
theorem dX8_third_86 : decode cX8_third 86 = .ok (.invokevirtual 130, 3) := by decide +kernel
theorem dX8_third_89 : decode cX8_third 89 = .ok (.ireturn, 1) := by decide +kernel
theorem dX8_needCounted_0 : decode cX8_needCounted 0 = .ok (.aload_n 0, 1) := by decide +kernel
theorem dX8_needCounted_1 : decode cX8_needCounted 1 = .ok (.invokevirtual 342, 3) := by decide +kernel
theorem dX8_needCounted_4 : decode cX8_needCounted 4 = .ok (.ifCond .ne 11, 3) := by decide +kernel
theorem dX8_needCounted_7 : decode cX8_needCounted 7 = .ok (.aload_n 0, 1) := by decide +kernel
theorem dX8_needCounted_8 : decode cX8_needCounted 8 = .ok (.iconst 4, 1) := by decide +kernel
theorem dX8_needCounted_9 : decode cX8_needCounted 9 = .ok (.invokevirtual 122, 3) := by decide +kernel
theorem dX8_needCounted_12 : decode cX8_needCounted 12 = .ok (.goto 20, 3) := by decide +kernel
theorem dX8_needCounted_15 : decode cX8_needCounted 15 = .ok (.aload_n 0, 1) := by decide +kernel
theorem dX8_needCounted_16 : decode cX8_needCounted 16 = .ok (.invokevirtual 323, 3) := by decide +kernel
theorem dX8_needCounted_19 : decode cX8_needCounted 19 = .ok (.ldc2_w 282, 3) := by decide +kernel
theorem dX8_needCounted_22 : decode cX8_needCounted 22 = .ok (.lcmp, 1) := by decide +kernel
theorem dX8_needCounted_23 : decode cX8_needCounted 23 = .ok (.ifCond .le 8, 3) := by decide +kernel
theorem dX8_needCounted_26 : decode cX8_needCounted 26 = .ok (.bipush (-6), 2) := by decide +kernel
theorem dX8_needCounted_28 : decode cX8_needCounted 28 = .ok (.goto 4, 3) := by decide +kernel
theorem dX8_needCounted_31 : decode cX8_needCounted 31 = .ok (.iconst 0, 1) := by decide +kernel
theorem dX8_needCounted_32 : decode cX8_needCounted 32 = .ok (.ireturn, 1) := by decide +kernel
theorem dX8_waysBy_0 : decode cX8_waysBy 0 = .ok (.aload_n 0, 1) := by decide +kernel
theorem dX8_waysBy_1 : decode cX8_waysBy 1 = .ok (.iload_n 1, 1) := by decide +kernel
theorem dX8_waysBy_2 : decode cX8_waysBy 2 = .ok (.iload_n 2, 1) := by decide +kernel
theorem dX8_waysBy_3 : decode cX8_waysBy 3 = .ok (.invokevirtual 333, 3) := by decide +kernel
theorem dX8_waysBy_6 : decode cX8_waysBy 6 = .ok (.ifCond .eq 31, 3) := by decide +kernel
theorem dX8_waysBy_9 : decode cX8_waysBy 9 = .ok (.aload_n 0, 1) := by decide +kernel
theorem dX8_waysBy_10 : decode cX8_waysBy 10 = .ok (.getfield 75, 3) := by decide +kernel
theorem dX8_waysBy_13 : decode cX8_waysBy 13 = .ok (.sipush 1728, 3) := by decide +kernel
theorem dX8_waysBy_16 : decode cX8_waysBy 16 = .ok (.iload_n 1, 1) := by decide +kernel
theorem dX8_waysBy_17 : decode cX8_waysBy 17 = .ok (.imul, 1) := by decide +kernel
theorem dX8_waysBy_18 : decode cX8_waysBy 18 = .ok (.iload_n 2, 1) := by decide +kernel
theorem dX8_waysBy_19 : decode cX8_waysBy 19 = .ok (.iadd, 1) := by decide +kernel
theorem dX8_waysBy_20 : decode cX8_waysBy 20 = .ok (.laload, 1) := by decide +kernel
theorem dX8_waysBy_21 : decode cX8_waysBy 21 = .ok (.aload_n 0, 1) := by decide +kernel
theorem dX8_waysBy_22 : decode cX8_waysBy 22 = .ok (.getfield 79, 3) := by decide +kernel
theorem dX8_waysBy_25 : decode cX8_waysBy 25 = .ok (.sipush 1728, 3) := by decide +kernel
theorem dX8_waysBy_28 : decode cX8_waysBy 28 = .ok (.iload_n 1, 1) := by decide +kernel
theorem dX8_waysBy_29 : decode cX8_waysBy 29 = .ok (.imul, 1) := by decide +kernel
theorem dX8_waysBy_30 : decode cX8_waysBy 30 = .ok (.iload_n 2, 1) := by decide +kernel
theorem dX8_waysBy_31 : decode cX8_waysBy 31 = .ok (.iadd, 1) := by decide +kernel
theorem dX8_waysBy_32 : decode cX8_waysBy 32 = .ok (.laload, 1) := by decide +kernel
theorem dX8_waysBy_33 : decode cX8_waysBy 33 = .ok (.lmul, 1) := by decide +kernel
theorem dX8_waysBy_34 : decode cX8_waysBy 34 = .ok (.goto 4, 3) := by decide +kernel
theorem dX8_waysBy_37 : decode cX8_waysBy 37 = .ok (.lconst 0, 1) := by decide +kernel
theorem dX8_waysBy_38 : decode cX8_waysBy 38 = .ok (.lreturn, 1) := by decide +kernel
theorem dX8_chance_0 : decode cX8_chance 0 = .ok (.aload_n 0, 1) := by decide +kernel
theorem dX8_chance_1 : decode cX8_chance 1 = .ok (.iload_n 1, 1) := by decide +kernel
theorem dX8_chance_2 : decode cX8_chance 2 = .ok (.invokevirtual 198, 3) := by decide +kernel
theorem dX8_chance_5 : decode cX8_chance 5 = .ok (.ifCond .eq 11, 3) := by decide +kernel
theorem dX8_chance_8 : decode cX8_chance 8 = .ok (.aload_n 0, 1) := by decide +kernel
theorem dX8_chance_9 : decode cX8_chance 9 = .ok (.iload_n 2, 1) := by decide +kernel
theorem dX8_chance_10 : decode cX8_chance 10 = .ok (.invokevirtual 339, 3) := by decide +kernel
theorem dX8_chance_13 : decode cX8_chance 13 = .ok (.ifCond .ne 5, 3) := by decide +kernel
theorem dX8_chance_16 : decode cX8_chance 16 = .ok (.iconst (-1), 1) := by decide +kernel
theorem dX8_chance_17 : decode cX8_chance 17 = .ok (.ireturn, 1) := by decide +kernel
theorem dX8_chance_18 : decode cX8_chance 18 = .ok (.aload_n 0, 1) := by decide +kernel
theorem dX8_chance_19 : decode cX8_chance 19 = .ok (.invokevirtual 402, 3) := by decide +kernel
theorem dX8_chance_22 : decode cX8_chance 22 = .ok (.istore_n 3, 1) := by decide +kernel
theorem dX8_chance_23 : decode cX8_chance 23 = .ok (.iload_n 3, 1) := by decide +kernel
theorem dX8_chance_24 : decode cX8_chance 24 = .ok (.ifCond .ge 5, 3) := by decide +kernel
theorem dX8_chance_27 : decode cX8_chance 27 = .ok (.iload_n 3, 1) := by decide +kernel
theorem dX8_chance_28 : decode cX8_chance 28 = .ok (.ireturn, 1) := by decide +kernel
theorem dX8_chance_29 : decode cX8_chance 29 = .ok (.lconst 0, 1) := by decide +kernel
theorem dX8_chance_30 : decode cX8_chance 30 = .ok (.lstore 4, 2) := by decide +kernel
theorem dX8_chance_32 : decode cX8_chance 32 = .ok (.iconst 0, 1) := by decide +kernel
theorem dX8_chance_33 : decode cX8_chance 33 = .ok (.istore 6, 2) := by decide +kernel
theorem dX8_chance_35 : decode cX8_chance 35 = .ok (.iload 6, 2) := by decide +kernel
theorem dX8_chance_37 : decode cX8_chance 37 = .ok (.aload_n 0, 1) := by decide +kernel
theorem dX8_chance_38 : decode cX8_chance 38 = .ok (.invokevirtual 286, 3) := by decide +kernel
theorem dX8_chance_41 : decode cX8_chance 41 = .ok (.if_icmp .ge 35, 3) := by decide +kernel
theorem dX8_chance_44 : decode cX8_chance 44 = .ok (.lload 4, 2) := by decide +kernel
theorem dX8_chance_46 : decode cX8_chance 46 = .ok (.aload_n 0, 1) := by decide +kernel
theorem dX8_chance_47 : decode cX8_chance 47 = .ok (.iload 6, 2) := by decide +kernel
theorem dX8_chance_49 : decode cX8_chance 49 = .ok (.iload_n 1, 1) := by decide +kernel
theorem dX8_chance_50 : decode cX8_chance 50 = .ok (.invokevirtual 336, 3) := by decide +kernel
theorem dX8_chance_53 : decode cX8_chance 53 = .ok (.ifCond .le 13, 3) := by decide +kernel
theorem dX8_chance_56 : decode cX8_chance 56 = .ok (.aload_n 0, 1) := by decide +kernel
theorem dX8_chance_57 : decode cX8_chance 57 = .ok (.iload_n 2, 1) := by decide +kernel
theorem dX8_chance_58 : decode cX8_chance 58 = .ok (.iload 6, 2) := by decide +kernel
theorem dX8_chance_60 : decode cX8_chance 60 = .ok (.invokevirtual 405, 3) := by decide +kernel
theorem dX8_chance_63 : decode cX8_chance 63 = .ok (.goto 4, 3) := by decide +kernel
theorem dX8_chance_66 : decode cX8_chance 66 = .ok (.lconst 0, 1) := by decide +kernel
theorem dX8_chance_67 : decode cX8_chance 67 = .ok (.ladd, 1) := by decide +kernel
theorem dX8_chance_68 : decode cX8_chance 68 = .ok (.lstore 4, 2) := by decide +kernel
theorem dX8_chance_70 : decode cX8_chance 70 = .ok (.iinc 6 1, 3) := by decide +kernel
theorem dX8_chance_73 : decode cX8_chance 73 = .ok (.goto (-38), 3) := by decide +kernel
theorem dX8_chance_76 : decode cX8_chance 76 = .ok (.aload_n 0, 1) := by decide +kernel
theorem dX8_chance_77 : decode cX8_chance 77 = .ok (.lload 4, 2) := by decide +kernel
theorem dX8_chance_79 : decode cX8_chance 79 = .ok (.aload_n 0, 1) := by decide +kernel
theorem dX8_chance_80 : decode cX8_chance 80 = .ok (.invokevirtual 323, 3) := by decide +kernel
theorem dX8_chance_83 : decode cX8_chance 83 = .ok (.iconst 1, 1) := by decide +kernel
theorem dX8_chance_84 : decode cX8_chance 84 = .ok (.invokevirtual 409, 3) := by decide +kernel
theorem dX8_chance_87 : decode cX8_chance 87 = .ok (.ireturn, 1) := by decide +kernel
theorem dX8_likely_0 : decode cX8_likely 0 = .ok (.aload_n 0, 1) := by decide +kernel
theorem dX8_likely_1 : decode cX8_likely 1 = .ok (.iload_n 1, 1) := by decide +kernel
theorem dX8_likely_2 : decode cX8_likely 2 = .ok (.invokevirtual 224, 3) := by decide +kernel
theorem dX8_likely_5 : decode cX8_likely 5 = .ok (.ifCond .eq 11, 3) := by decide +kernel
theorem dX8_likely_8 : decode cX8_likely 8 = .ok (.aload_n 0, 1) := by decide +kernel
theorem dX8_likely_9 : decode cX8_likely 9 = .ok (.iload_n 2, 1) := by decide +kernel
theorem dX8_likely_10 : decode cX8_likely 10 = .ok (.invokevirtual 339, 3) := by decide +kernel
theorem dX8_likely_13 : decode cX8_likely 13 = .ok (.ifCond .ne 5, 3) := by decide +kernel
theorem dX8_likely_16 : decode cX8_likely 16 = .ok (.iconst (-1), 1) := by decide +kernel
theorem dX8_likely_17 : decode cX8_likely 17 = .ok (.ireturn, 1) := by decide +kernel
theorem dX8_likely_18 : decode cX8_likely 18 = .ok (.aload_n 0, 1) := by decide +kernel
theorem dX8_likely_19 : decode cX8_likely 19 = .ok (.invokevirtual 402, 3) := by decide +kernel
theorem dX8_likely_22 : decode cX8_likely 22 = .ok (.istore_n 3, 1) := by decide +kernel
theorem dX8_likely_23 : decode cX8_likely 23 = .ok (.iload_n 3, 1) := by decide +kernel
theorem dX8_likely_24 : decode cX8_likely 24 = .ok (.ifCond .ge 5, 3) := by decide +kernel
theorem dX8_likely_27 : decode cX8_likely 27 = .ok (.iload_n 3, 1) := by decide +kernel
theorem dX8_likely_28 : decode cX8_likely 28 = .ok (.ireturn, 1) := by decide +kernel
theorem dX8_likely_29 : decode cX8_likely 29 = .ok (.iconst 0, 1) := by decide +kernel
theorem dX8_likely_30 : decode cX8_likely 30 = .ok (.istore 4, 2) := by decide +kernel
theorem dX8_likely_32 : decode cX8_likely 32 = .ok (.iload 4, 2) := by decide +kernel
theorem dX8_likely_34 : decode cX8_likely 34 = .ok (.bipush 6, 2) := by decide +kernel
theorem dX8_likely_36 : decode cX8_likely 36 = .ok (.if_icmp .ge 17, 3) := by decide +kernel
theorem dX8_likely_39 : decode cX8_likely 39 = .ok (.aload_n 0, 1) := by decide +kernel
theorem dX8_likely_40 : decode cX8_likely 40 = .ok (.getfield 88, 3) := by decide +kernel
theorem dX8_likely_43 : decode cX8_likely 43 = .ok (.iload 4, 2) := by decide +kernel
theorem dX8_likely_45 : decode cX8_likely 45 = .ok (.lconst 0, 1) := by decide +kernel
theorem dX8_likely_46 : decode cX8_likely 46 = .ok (.lastore, 1) := by decide +kernel
theorem dX8_likely_47 : decode cX8_likely 47 = .ok (.iinc 4 1, 3) := by decide +kernel
theorem dX8_likely_50 : decode cX8_likely 50 = .ok (.goto (-18), 3) := by decide +kernel
theorem dX8_likely_53 : decode cX8_likely 53 = .ok (.iconst 0, 1) := by decide +kernel
theorem dX8_likely_54 : decode cX8_likely 54 = .ok (.istore 4, 2) := by decide +kernel
theorem dX8_likely_56 : decode cX8_likely 56 = .ok (.iload 4, 2) := by decide +kernel
theorem dX8_likely_58 : decode cX8_likely 58 = .ok (.aload_n 0, 1) := by decide +kernel
theorem dX8_likely_59 : decode cX8_likely 59 = .ok (.invokevirtual 286, 3) := by decide +kernel
theorem dX8_likely_62 : decode cX8_likely 62 = .ok (.if_icmp .ge 31, 3) := by decide +kernel
theorem dX8_likely_65 : decode cX8_likely 65 = .ok (.aload_n 0, 1) := by decide +kernel
theorem dX8_likely_66 : decode cX8_likely 66 = .ok (.getfield 88, 3) := by decide +kernel
theorem dX8_likely_69 : decode cX8_likely 69 = .ok (.aload_n 0, 1) := by decide +kernel
theorem dX8_likely_70 : decode cX8_likely 70 = .ok (.iload 4, 2) := by decide +kernel
theorem dX8_likely_72 : decode cX8_likely 72 = .ok (.iload_n 1, 1) := by decide +kernel
theorem dX8_likely_73 : decode cX8_likely 73 = .ok (.invokevirtual 261, 3) := by decide +kernel
theorem dX8_likely_76 : decode cX8_likely 76 = .ok (.dup2, 1) := by decide +kernel
theorem dX8_likely_77 : decode cX8_likely 77 = .ok (.laload, 1) := by decide +kernel
theorem dX8_likely_78 : decode cX8_likely 78 = .ok (.aload_n 0, 1) := by decide +kernel
theorem dX8_likely_79 : decode cX8_likely 79 = .ok (.iload_n 2, 1) := by decide +kernel
theorem dX8_likely_80 : decode cX8_likely 80 = .ok (.iload 4, 2) := by decide +kernel
theorem dX8_likely_82 : decode cX8_likely 82 = .ok (.invokevirtual 405, 3) := by decide +kernel
theorem dX8_likely_85 : decode cX8_likely 85 = .ok (.ladd, 1) := by decide +kernel
theorem dX8_likely_86 : decode cX8_likely 86 = .ok (.lastore, 1) := by decide +kernel
theorem dX8_likely_87 : decode cX8_likely 87 = .ok (.iinc 4 1, 3) := by decide +kernel
theorem dX8_likely_90 : decode cX8_likely 90 = .ok (.goto (-34), 3) := by decide +kernel
theorem dX8_likely_93 : decode cX8_likely 93 = .ok (.iconst 0, 1) := by decide +kernel
theorem dX8_likely_94 : decode cX8_likely 94 = .ok (.istore 4, 2) := by decide +kernel
theorem dX8_likely_96 : decode cX8_likely 96 = .ok (.iconst 1, 1) := by decide +kernel
theorem dX8_likely_97 : decode cX8_likely 97 = .ok (.istore 5, 2) := by decide +kernel
theorem dX8_likely_99 : decode cX8_likely 99 = .ok (.iload 5, 2) := by decide +kernel
theorem dX8_likely_101 : decode cX8_likely 101 = .ok (.bipush 6, 2) := by decide +kernel
theorem dX8_likely_103 : decode cX8_likely 103 = .ok (.if_icmp .ge 36, 3) := by decide +kernel
theorem dX8_likely_106 : decode cX8_likely 106 = .ok (.aload_n 0, 1) := by decide +kernel
theorem dX8_likely_107 : decode cX8_likely 107 = .ok (.getfield 88, 3) := by decide +kernel
theorem dX8_likely_110 : decode cX8_likely 110 = .ok (.iload 5, 2) := by decide +kernel
theorem dX8_likely_112 : decode cX8_likely 112 = .ok (.laload, 1) := by decide +kernel
theorem dX8_likely_113 : decode cX8_likely 113 = .ok (.aload_n 0, 1) := by decide +kernel
theorem dX8_likely_114 : decode cX8_likely 114 = .ok (.getfield 88, 3) := by decide +kernel
theorem dX8_likely_117 : decode cX8_likely 117 = .ok (.iload 4, 2) := by decide +kernel
theorem dX8_likely_119 : decode cX8_likely 119 = .ok (.laload, 1) := by decide +kernel
theorem dX8_likely_120 : decode cX8_likely 120 = .ok (.lcmp, 1) := by decide +kernel
theorem dX8_likely_121 : decode cX8_likely 121 = .ok (.ifCond .le 8, 3) := by decide +kernel
theorem dX8_likely_124 : decode cX8_likely 124 = .ok (.iload 5, 2) := by decide +kernel
theorem dX8_likely_126 : decode cX8_likely 126 = .ok (.goto 5, 3) := by decide +kernel
theorem dX8_likely_129 : decode cX8_likely 129 = .ok (.iload 4, 2) := by decide +kernel
theorem dX8_likely_131 : decode cX8_likely 131 = .ok (.istore 4, 2) := by decide +kernel
theorem dX8_likely_133 : decode cX8_likely 133 = .ok (.iinc 5 1, 3) := by decide +kernel
theorem dX8_likely_136 : decode cX8_likely 136 = .ok (.goto (-37), 3) := by decide +kernel
theorem dX8_likely_139 : decode cX8_likely 139 = .ok (.aload_n 0, 1) := by decide +kernel
theorem dX8_likely_140 : decode cX8_likely 140 = .ok (.aload_n 0, 1) := by decide +kernel
theorem dX8_likely_141 : decode cX8_likely 141 = .ok (.getfield 88, 3) := by decide +kernel
theorem dX8_likely_144 : decode cX8_likely 144 = .ok (.iload 4, 2) := by decide +kernel
theorem dX8_likely_146 : decode cX8_likely 146 = .ok (.laload, 1) := by decide +kernel
theorem dX8_likely_147 : decode cX8_likely 147 = .ok (.aload_n 0, 1) := by decide +kernel
theorem dX8_likely_148 : decode cX8_likely 148 = .ok (.invokevirtual 323, 3) := by decide +kernel
theorem dX8_likely_151 : decode cX8_likely 151 = .ok (.iload 4, 2) := by decide +kernel
theorem dX8_likely_153 : decode cX8_likely 153 = .ok (.invokevirtual 409, 3) := by decide +kernel
theorem dX8_likely_156 : decode cX8_likely 156 = .ok (.ireturn, 1) := by decide +kernel
theorem dX8_cheapestBy_0 : decode cX8_cheapestBy 0 = .ok (.aload_n 0, 1) := by decide +kernel
theorem dX8_cheapestBy_1 : decode cX8_cheapestBy 1 = .ok (.iconst 0, 1) := by decide +kernel
theorem dX8_cheapestBy_2 : decode cX8_cheapestBy 2 = .ok (.iload_n 1, 1) := by decide +kernel
theorem dX8_cheapestBy_3 : decode cX8_cheapestBy 3 = .ok (.invokevirtual 310, 3) := by decide +kernel
theorem dX8_cheapestBy_6 : decode cX8_cheapestBy 6 = .ok (.ifCond .ne 6, 3) := by decide +kernel
theorem dX8_cheapestBy_9 : decode cX8_cheapestBy 9 = .ok (.bipush (-9), 2) := by decide +kernel
theorem dX8_cheapestBy_11 : decode cX8_cheapestBy 11 = .ok (.ireturn, 1) := by decide +kernel
theorem dX8_cheapestBy_12 : decode cX8_cheapestBy 12 = .ok (.iconst 0, 1) := by decide +kernel
theorem dX8_cheapestBy_13 : decode cX8_cheapestBy 13 = .ok (.istore 4, 2) := by decide +kernel
theorem dX8_cheapestBy_15 : decode cX8_cheapestBy 15 = .ok (.iload 4, 2) := by decide +kernel
theorem dX8_cheapestBy_17 : decode cX8_cheapestBy 17 = .ok (.aload_n 0, 1) := by decide +kernel
theorem dX8_cheapestBy_18 : decode cX8_cheapestBy 18 = .ok (.invokevirtual 286, 3) := by decide +kernel
theorem dX8_cheapestBy_21 : decode cX8_cheapestBy 21 = .ok (.if_icmp .ge 38, 3) := by decide +kernel
theorem dX8_cheapestBy_24 : decode cX8_cheapestBy 24 = .ok (.aload_n 0, 1) := by decide +kernel
theorem dX8_cheapestBy_25 : decode cX8_cheapestBy 25 = .ok (.getfield 82, 3) := by decide +kernel
theorem dX8_cheapestBy_28 : decode cX8_cheapestBy 28 = .ok (.iload 4, 2) := by decide +kernel
theorem dX8_cheapestBy_30 : decode cX8_cheapestBy 30 = .ok (.aload_n 0, 1) := by decide +kernel
theorem dX8_cheapestBy_31 : decode cX8_cheapestBy 31 = .ok (.iload 4, 2) := by decide +kernel
theorem dX8_cheapestBy_33 : decode cX8_cheapestBy 33 = .ok (.invokevirtual 290, 3) := by decide +kernel
theorem dX8_cheapestBy_36 : decode cX8_cheapestBy 36 = .ok (.ifCond .eq 7, 3) := by decide +kernel
theorem dX8_cheapestBy_39 : decode cX8_cheapestBy 39 = .ok (.iconst 0, 1) := by decide +kernel
theorem dX8_cheapestBy_40 : decode cX8_cheapestBy 40 = .ok (.goto 4, 3) := by decide +kernel
theorem dX8_cheapestBy_43 : decode cX8_cheapestBy 43 = .ok (.iconst (-1), 1) := by decide +kernel
theorem dX8_cheapestBy_44 : decode cX8_cheapestBy 44 = .ok (.iastore, 1) := by decide +kernel
theorem dX8_cheapestBy_45 : decode cX8_cheapestBy 45 = .ok (.aload_n 0, 1) := by decide +kernel
theorem dX8_cheapestBy_46 : decode cX8_cheapestBy 46 = .ok (.getfield 85, 3) := by decide +kernel
theorem dX8_cheapestBy_49 : decode cX8_cheapestBy 49 = .ok (.iload 4, 2) := by decide +kernel
theorem dX8_cheapestBy_51 : decode cX8_cheapestBy 51 = .ok (.iconst (-1), 1) := by decide +kernel
theorem dX8_cheapestBy_52 : decode cX8_cheapestBy 52 = .ok (.iastore, 1) := by decide +kernel
theorem dX8_cheapestBy_53 : decode cX8_cheapestBy 53 = .ok (.iinc 4 1, 3) := by decide +kernel
theorem dX8_cheapestBy_56 : decode cX8_cheapestBy 56 = .ok (.goto (-41), 3) := by decide +kernel
theorem dX8_cheapestBy_59 : decode cX8_cheapestBy 59 = .ok (.iconst 0, 1) := by decide +kernel
theorem dX8_cheapestBy_60 : decode cX8_cheapestBy 60 = .ok (.istore 4, 2) := by decide +kernel
theorem dX8_cheapestBy_62 : decode cX8_cheapestBy 62 = .ok (.iload 4, 2) := by decide +kernel
theorem dX8_cheapestBy_64 : decode cX8_cheapestBy 64 = .ok (.aload_n 0, 1) := by decide +kernel
theorem dX8_cheapestBy_65 : decode cX8_cheapestBy 65 = .ok (.getfield 99, 3) := by decide +kernel
theorem dX8_cheapestBy_68 : decode cX8_cheapestBy 68 = .ok (.if_icmp .ge 190, 3) := by decide +kernel
theorem dX8_cheapestBy_71 : decode cX8_cheapestBy 71 = .ok (.iconst 0, 1) := by decide +kernel
theorem dX8_cheapestBy_72 : decode cX8_cheapestBy 72 = .ok (.istore 5, 2) := by decide +kernel
theorem dX8_cheapestBy_74 : decode cX8_cheapestBy 74 = .ok (.iload 5, 2) := by decide +kernel
theorem dX8_cheapestBy_76 : decode cX8_cheapestBy 76 = .ok (.aload_n 0, 1) := by decide +kernel
theorem dX8_cheapestBy_77 : decode cX8_cheapestBy 77 = .ok (.invokevirtual 286, 3) := by decide +kernel
theorem dX8_cheapestBy_80 : decode cX8_cheapestBy 80 = .ok (.if_icmp .ge 168, 3) := by decide +kernel
theorem dX8_cheapestBy_83 : decode cX8_cheapestBy 83 = .ok (.aload_n 0, 1) := by decide +kernel
theorem dX8_cheapestBy_84 : decode cX8_cheapestBy 84 = .ok (.getfield 82, 3) := by decide +kernel
theorem dX8_cheapestBy_87 : decode cX8_cheapestBy 87 = .ok (.iload 5, 2) := by decide +kernel
theorem dX8_cheapestBy_89 : decode cX8_cheapestBy 89 = .ok (.iaload, 1) := by decide +kernel
theorem dX8_cheapestBy_90 : decode cX8_cheapestBy 90 = .ok (.ifCond .lt 152, 3) := by decide +kernel
theorem dX8_cheapestBy_93 : decode cX8_cheapestBy 93 = .ok (.aload_n 0, 1) := by decide +kernel
theorem dX8_cheapestBy_94 : decode cX8_cheapestBy 94 = .ok (.iload 4, 2) := by decide +kernel
theorem dX8_cheapestBy_96 : decode cX8_cheapestBy 96 = .ok (.iload 5, 2) := by decide +kernel
theorem dX8_cheapestBy_98 : decode cX8_cheapestBy 98 = .ok (.invokevirtual 297, 3) := by decide +kernel
theorem dX8_cheapestBy_101 : decode cX8_cheapestBy 101 = .ok (.iconst 0, 1) := by decide +kernel
theorem dX8_cheapestBy_102 : decode cX8_cheapestBy 102 = .ok (.istore 6, 2) := by decide +kernel
theorem dX8_cheapestBy_104 : decode cX8_cheapestBy 104 = .ok (.iload 6, 2) := by decide +kernel
theorem dX8_cheapestBy_106 : decode cX8_cheapestBy 106 = .ok (.aload_n 0, 1) := by decide +kernel
theorem dX8_cheapestBy_107 : decode cX8_cheapestBy 107 = .ok (.getfield 270, 3) := by decide +kernel
theorem dX8_cheapestBy_110 : decode cX8_cheapestBy 110 = .ok (.if_icmp .ge 132, 3) := by decide +kernel
theorem dX8_cheapestBy_113 : decode cX8_cheapestBy 113 = .ok (.aload_n 0, 1) := by decide +kernel
theorem dX8_cheapestBy_114 : decode cX8_cheapestBy 114 = .ok (.iload 6, 2) := by decide +kernel
theorem dX8_cheapestBy_116 : decode cX8_cheapestBy 116 = .ok (.invokevirtual 300, 3) := by decide +kernel
theorem dX8_cheapestBy_119 : decode cX8_cheapestBy 119 = .ok (.aload_n 0, 1) := by decide +kernel
theorem dX8_cheapestBy_120 : decode cX8_cheapestBy 120 = .ok (.getfield 273, 3) := by decide +kernel
theorem dX8_cheapestBy_123 : decode cX8_cheapestBy 123 = .ok (.aload_n 0, 1) := by decide +kernel
theorem dX8_cheapestBy_124 : decode cX8_cheapestBy 124 = .ok (.getfield 249, 3) := by decide +kernel
theorem dX8_cheapestBy_127 : decode cX8_cheapestBy 127 = .ok (.iand, 1) := by decide +kernel
theorem dX8_cheapestBy_128 : decode cX8_cheapestBy 128 = .ok (.aload_n 0, 1) := by decide +kernel
theorem dX8_cheapestBy_129 : decode cX8_cheapestBy 129 = .ok (.getfield 47, 3) := by decide +kernel
theorem dX8_cheapestBy_132 : decode cX8_cheapestBy 132 = .ok (.iload 4, 2) := by decide +kernel
theorem dX8_cheapestBy_134 : decode cX8_cheapestBy 134 = .ok (.iaload, 1) := by decide +kernel
theorem dX8_cheapestBy_135 : decode cX8_cheapestBy 135 = .ok (.iconst (-1), 1) := by decide +kernel
theorem dX8_cheapestBy_136 : decode cX8_cheapestBy 136 = .ok (.ixor, 1) := by decide +kernel
theorem dX8_cheapestBy_137 : decode cX8_cheapestBy 137 = .ok (.iand, 1) := by decide +kernel
theorem dX8_cheapestBy_138 : decode cX8_cheapestBy 138 = .ok (.invokestatic 413, 3) := by decide +kernel
theorem dX8_cheapestBy_141 : decode cX8_cheapestBy 141 = .ok (.istore 7, 2) := by decide +kernel
theorem dX8_cheapestBy_143 : decode cX8_cheapestBy 143 = .ok (.aload_n 0, 1) := by decide +kernel
theorem dX8_cheapestBy_144 : decode cX8_cheapestBy 144 = .ok (.getfield 82, 3) := by decide +kernel
theorem dX8_cheapestBy_147 : decode cX8_cheapestBy 147 = .ok (.iload 5, 2) := by decide +kernel
theorem dX8_cheapestBy_149 : decode cX8_cheapestBy 149 = .ok (.iaload, 1) := by decide +kernel
theorem dX8_cheapestBy_150 : decode cX8_cheapestBy 150 = .ok (.sipush 1000, 3) := by decide +kernel
theorem dX8_cheapestBy_153 : decode cX8_cheapestBy 153 = .ok (.iload_n 2, 1) := by decide +kernel
theorem dX8_cheapestBy_154 : decode cX8_cheapestBy 154 = .ok (.iload 7, 2) := by decide +kernel
theorem dX8_cheapestBy_156 : decode cX8_cheapestBy 156 = .ok (.imul, 1) := by decide +kernel
theorem dX8_cheapestBy_157 : decode cX8_cheapestBy 157 = .ok (.iload_n 3, 1) := by decide +kernel
theorem dX8_cheapestBy_158 : decode cX8_cheapestBy 158 = .ok (.aload_n 0, 1) := by decide +kernel
theorem dX8_cheapestBy_159 : decode cX8_cheapestBy 159 = .ok (.getfield 47, 3) := by decide +kernel
theorem dX8_cheapestBy_162 : decode cX8_cheapestBy 162 = .ok (.iload 4, 2) := by decide +kernel
theorem dX8_cheapestBy_164 : decode cX8_cheapestBy 164 = .ok (.iaload, 1) := by decide +kernel
theorem dX8_cheapestBy_165 : decode cX8_cheapestBy 165 = .ok (.aload_n 0, 1) := by decide +kernel
theorem dX8_cheapestBy_166 : decode cX8_cheapestBy 166 = .ok (.getfield 273, 3) := by decide +kernel
theorem dX8_cheapestBy_169 : decode cX8_cheapestBy 169 = .ok (.iconst (-1), 1) := by decide +kernel
theorem dX8_cheapestBy_170 : decode cX8_cheapestBy 170 = .ok (.ixor, 1) := by decide +kernel
theorem dX8_cheapestBy_171 : decode cX8_cheapestBy 171 = .ok (.iand, 1) := by decide +kernel
theorem dX8_cheapestBy_172 : decode cX8_cheapestBy 172 = .ok (.invokestatic 413, 3) := by decide +kernel
theorem dX8_cheapestBy_175 : decode cX8_cheapestBy 175 = .ok (.imul, 1) := by decide +kernel
theorem dX8_cheapestBy_176 : decode cX8_cheapestBy 176 = .ok (.iadd, 1) := by decide +kernel
theorem dX8_cheapestBy_177 : decode cX8_cheapestBy 177 = .ok (.imul, 1) := by decide +kernel
theorem dX8_cheapestBy_178 : decode cX8_cheapestBy 178 = .ok (.iadd, 1) := by decide +kernel
theorem dX8_cheapestBy_179 : decode cX8_cheapestBy 179 = .ok (.iload 7, 2) := by decide +kernel
theorem dX8_cheapestBy_181 : decode cX8_cheapestBy 181 = .ok (.iadd, 1) := by decide +kernel
theorem dX8_cheapestBy_182 : decode cX8_cheapestBy 182 = .ok (.istore 8, 2) := by decide +kernel
theorem dX8_cheapestBy_184 : decode cX8_cheapestBy 184 = .ok (.aload_n 0, 1) := by decide +kernel
theorem dX8_cheapestBy_185 : decode cX8_cheapestBy 185 = .ok (.iload 4, 2) := by decide +kernel
theorem dX8_cheapestBy_187 : decode cX8_cheapestBy 187 = .ok (.iconst 1, 1) := by decide +kernel
theorem dX8_cheapestBy_188 : decode cX8_cheapestBy 188 = .ok (.iadd, 1) := by decide +kernel
theorem dX8_cheapestBy_189 : decode cX8_cheapestBy 189 = .ok (.aload_n 0, 1) := by decide +kernel
theorem dX8_cheapestBy_190 : decode cX8_cheapestBy 190 = .ok (.getfield 276, 3) := by decide +kernel
theorem dX8_cheapestBy_193 : decode cX8_cheapestBy 193 = .ok (.invokevirtual 267, 3) := by decide +kernel
theorem dX8_cheapestBy_196 : decode cX8_cheapestBy 196 = .ok (.ifCond .eq 40, 3) := by decide +kernel
theorem dX8_cheapestBy_199 : decode cX8_cheapestBy 199 = .ok (.aload_n 0, 1) := by decide +kernel
theorem dX8_cheapestBy_200 : decode cX8_cheapestBy 200 = .ok (.getfield 85, 3) := by decide +kernel
theorem dX8_cheapestBy_203 : decode cX8_cheapestBy 203 = .ok (.aload_n 0, 1) := by decide +kernel
theorem dX8_cheapestBy_204 : decode cX8_cheapestBy 204 = .ok (.getfield 276, 3) := by decide +kernel
theorem dX8_cheapestBy_207 : decode cX8_cheapestBy 207 = .ok (.iaload, 1) := by decide +kernel
theorem dX8_cheapestBy_208 : decode cX8_cheapestBy 208 = .ok (.ifCond .lt 17, 3) := by decide +kernel
theorem dX8_cheapestBy_211 : decode cX8_cheapestBy 211 = .ok (.iload 8, 2) := by decide +kernel
theorem dX8_cheapestBy_213 : decode cX8_cheapestBy 213 = .ok (.aload_n 0, 1) := by decide +kernel
theorem dX8_cheapestBy_214 : decode cX8_cheapestBy 214 = .ok (.getfield 85, 3) := by decide +kernel
theorem dX8_cheapestBy_217 : decode cX8_cheapestBy 217 = .ok (.aload_n 0, 1) := by decide +kernel
theorem dX8_cheapestBy_218 : decode cX8_cheapestBy 218 = .ok (.getfield 276, 3) := by decide +kernel
theorem dX8_cheapestBy_221 : decode cX8_cheapestBy 221 = .ok (.iaload, 1) := by decide +kernel
theorem dX8_cheapestBy_222 : decode cX8_cheapestBy 222 = .ok (.if_icmp .ge 14, 3) := by decide +kernel
theorem dX8_cheapestBy_225 : decode cX8_cheapestBy 225 = .ok (.aload_n 0, 1) := by decide +kernel
theorem dX8_cheapestBy_226 : decode cX8_cheapestBy 226 = .ok (.getfield 85, 3) := by decide +kernel
theorem dX8_cheapestBy_229 : decode cX8_cheapestBy 229 = .ok (.aload_n 0, 1) := by decide +kernel
theorem dX8_cheapestBy_230 : decode cX8_cheapestBy 230 = .ok (.getfield 276, 3) := by decide +kernel
theorem dX8_cheapestBy_233 : decode cX8_cheapestBy 233 = .ok (.iload 8, 2) := by decide +kernel
theorem dX8_cheapestBy_235 : decode cX8_cheapestBy 235 = .ok (.iastore, 1) := by decide +kernel
theorem dX8_cheapestBy_236 : decode cX8_cheapestBy 236 = .ok (.iinc 6 1, 3) := by decide +kernel
theorem dX8_cheapestBy_239 : decode cX8_cheapestBy 239 = .ok (.goto (-135), 3) := by decide +kernel
theorem dX8_cheapestBy_242 : decode cX8_cheapestBy 242 = .ok (.iinc 5 1, 3) := by decide +kernel
theorem dX8_cheapestBy_245 : decode cX8_cheapestBy 245 = .ok (.goto (-171), 3) := by decide +kernel
theorem dX8_cheapestBy_248 : decode cX8_cheapestBy 248 = .ok (.aload_n 0, 1) := by decide +kernel
theorem dX8_cheapestBy_249 : decode cX8_cheapestBy 249 = .ok (.invokevirtual 355, 3) := by decide +kernel
theorem dX8_cheapestBy_252 : decode cX8_cheapestBy 252 = .ok (.iinc 4 1, 3) := by decide +kernel
theorem dX8_cheapestBy_255 : decode cX8_cheapestBy 255 = .ok (.goto (-193), 3) := by decide +kernel
theorem dX8_cheapestBy_258 : decode cX8_cheapestBy 258 = .ok (.bipush (-9), 2) := by decide +kernel
theorem dX8_cheapestBy_260 : decode cX8_cheapestBy 260 = .ok (.istore 4, 2) := by decide +kernel
theorem dX8_cheapestBy_262 : decode cX8_cheapestBy 262 = .ok (.iconst 0, 1) := by decide +kernel
theorem dX8_cheapestBy_263 : decode cX8_cheapestBy 263 = .ok (.istore 5, 2) := by decide +kernel
theorem dX8_cheapestBy_265 : decode cX8_cheapestBy 265 = .ok (.iload 5, 2) := by decide +kernel
theorem dX8_cheapestBy_267 : decode cX8_cheapestBy 267 = .ok (.aload_n 0, 1) := by decide +kernel
theorem dX8_cheapestBy_268 : decode cX8_cheapestBy 268 = .ok (.invokevirtual 286, 3) := by decide +kernel
theorem dX8_cheapestBy_271 : decode cX8_cheapestBy 271 = .ok (.if_icmp .ge 52, 3) := by decide +kernel
theorem dX8_cheapestBy_274 : decode cX8_cheapestBy 274 = .ok (.aload_n 0, 1) := by decide +kernel
theorem dX8_cheapestBy_275 : decode cX8_cheapestBy 275 = .ok (.getfield 82, 3) := by decide +kernel
theorem dX8_cheapestBy_278 : decode cX8_cheapestBy 278 = .ok (.iload 5, 2) := by decide +kernel
theorem dX8_cheapestBy_280 : decode cX8_cheapestBy 280 = .ok (.iaload, 1) := by decide +kernel
theorem dX8_cheapestBy_281 : decode cX8_cheapestBy 281 = .ok (.ifCond .lt 32, 3) := by decide +kernel
theorem dX8_cheapestBy_284 : decode cX8_cheapestBy 284 = .ok (.iload 4, 2) := by decide +kernel
theorem dX8_cheapestBy_286 : decode cX8_cheapestBy 286 = .ok (.bipush (-9), 2) := by decide +kernel
theorem dX8_cheapestBy_288 : decode cX8_cheapestBy 288 = .ok (.if_icmp .eq 15, 3) := by decide +kernel
theorem dX8_cheapestBy_291 : decode cX8_cheapestBy 291 = .ok (.aload_n 0, 1) := by decide +kernel
theorem dX8_cheapestBy_292 : decode cX8_cheapestBy 292 = .ok (.getfield 82, 3) := by decide +kernel
theorem dX8_cheapestBy_295 : decode cX8_cheapestBy 295 = .ok (.iload 5, 2) := by decide +kernel
theorem dX8_cheapestBy_297 : decode cX8_cheapestBy 297 = .ok (.iaload, 1) := by decide +kernel
theorem dX8_cheapestBy_298 : decode cX8_cheapestBy 298 = .ok (.iload 4, 2) := by decide +kernel
theorem dX8_cheapestBy_300 : decode cX8_cheapestBy 300 = .ok (.if_icmp .ge 13, 3) := by decide +kernel
theorem dX8_cheapestBy_303 : decode cX8_cheapestBy 303 = .ok (.aload_n 0, 1) := by decide +kernel
theorem dX8_cheapestBy_304 : decode cX8_cheapestBy 304 = .ok (.getfield 82, 3) := by decide +kernel
theorem dX8_cheapestBy_307 : decode cX8_cheapestBy 307 = .ok (.iload 5, 2) := by decide +kernel
theorem dX8_cheapestBy_309 : decode cX8_cheapestBy 309 = .ok (.iaload, 1) := by decide +kernel
theorem dX8_cheapestBy_310 : decode cX8_cheapestBy 310 = .ok (.goto 5, 3) := by decide +kernel
theorem dX8_cheapestBy_313 : decode cX8_cheapestBy 313 = .ok (.iload 4, 2) := by decide +kernel
theorem dX8_cheapestBy_315 : decode cX8_cheapestBy 315 = .ok (.istore 4, 2) := by decide +kernel
theorem dX8_cheapestBy_317 : decode cX8_cheapestBy 317 = .ok (.iinc 5 1, 3) := by decide +kernel
theorem dX8_cheapestBy_320 : decode cX8_cheapestBy 320 = .ok (.goto (-55), 3) := by decide +kernel
theorem dX8_cheapestBy_323 : decode cX8_cheapestBy 323 = .ok (.iload 4, 2) := by decide +kernel
theorem dX8_cheapestBy_325 : decode cX8_cheapestBy 325 = .ok (.ireturn, 1) := by decide +kernel
theorem dX8_isPrice_0 : decode cX8_isPrice 0 = .ok (.iload_n 0, 1) := by decide +kernel
theorem dX8_isPrice_1 : decode cX8_isPrice 1 = .ok (.iconst 0, 1) := by decide +kernel
theorem dX8_isPrice_2 : decode cX8_isPrice 2 = .ok (.bipush 99, 2) := by decide +kernel
theorem dX8_isPrice_4 : decode cX8_isPrice 4 = .ok (.invokestatic 105, 3) := by decide +kernel
theorem dX8_isPrice_7 : decode cX8_isPrice 7 = .ok (.ireturn, 1) := by decide +kernel
theorem dX8_cheapest_0 : decode cX8_cheapest 0 = .ok (.iload_n 1, 1) := by decide +kernel
theorem dX8_cheapest_1 : decode cX8_cheapest 1 = .ok (.invokestatic 416, 3) := by decide +kernel
theorem dX8_cheapest_4 : decode cX8_cheapest 4 = .ok (.ifCond .eq 10, 3) := by decide +kernel
theorem dX8_cheapest_7 : decode cX8_cheapest 7 = .ok (.iload_n 2, 1) := by decide +kernel
theorem dX8_cheapest_8 : decode cX8_cheapest 8 = .ok (.invokestatic 416, 3) := by decide +kernel
theorem dX8_cheapest_11 : decode cX8_cheapest 11 = .ok (.ifCond .ne 5, 3) := by decide +kernel
theorem dX8_cheapest_14 : decode cX8_cheapest 14 = .ok (.iconst (-1), 1) := by decide +kernel
theorem dX8_cheapest_15 : decode cX8_cheapest 15 = .ok (.ireturn, 1) := by decide +kernel
theorem dX8_cheapest_16 : decode cX8_cheapest 16 = .ok (.aload_n 0, 1) := by decide +kernel
theorem dX8_cheapest_17 : decode cX8_cheapest 17 = .ok (.aload_n 0, 1) := by decide +kernel
theorem dX8_cheapest_18 : decode cX8_cheapest 18 = .ok (.getfield 186, 3) := by decide +kernel
theorem dX8_cheapest_21 : decode cX8_cheapest 21 = .ok (.iload_n 1, 1) := by decide +kernel
theorem dX8_cheapest_22 : decode cX8_cheapest 22 = .ok (.iload_n 2, 1) := by decide +kernel
theorem dX8_cheapest_23 : decode cX8_cheapest 23 = .ok (.invokevirtual 419, 3) := by decide +kernel
theorem dX8_cheapest_26 : decode cX8_cheapest 26 = .ok (.istore_n 3, 1) := by decide +kernel
theorem dX8_cheapest_27 : decode cX8_cheapest 27 = .ok (.iload_n 3, 1) := by decide +kernel
theorem dX8_cheapest_28 : decode cX8_cheapest 28 = .ok (.bipush (-9), 2) := by decide +kernel
theorem dX8_cheapest_30 : decode cX8_cheapest 30 = .ok (.if_icmp .ne 8, 3) := by decide +kernel
theorem dX8_cheapest_33 : decode cX8_cheapest 33 = .ok (.bipush (-9), 2) := by decide +kernel
theorem dX8_cheapest_35 : decode cX8_cheapest 35 = .ok (.goto 17, 3) := by decide +kernel
theorem dX8_cheapest_38 : decode cX8_cheapest 38 = .ok (.aload_n 0, 1) := by decide +kernel
theorem dX8_cheapest_39 : decode cX8_cheapest 39 = .ok (.iload_n 3, 1) := by decide +kernel
theorem dX8_cheapest_40 : decode cX8_cheapest 40 = .ok (.sipush 1000, 3) := by decide +kernel
theorem dX8_cheapest_43 : decode cX8_cheapest 43 = .ok (.irem, 1) := by decide +kernel
theorem dX8_cheapest_44 : decode cX8_cheapest 44 = .ok (.iload_n 3, 1) := by decide +kernel
theorem dX8_cheapest_45 : decode cX8_cheapest 45 = .ok (.sipush 1000, 3) := by decide +kernel
theorem dX8_cheapest_48 : decode cX8_cheapest 48 = .ok (.idiv, 1) := by decide +kernel
theorem dX8_cheapest_49 : decode cX8_cheapest 49 = .ok (.invokevirtual 130, 3) := by decide +kernel
theorem dX8_cheapest_52 : decode cX8_cheapest 52 = .ok (.ireturn, 1) := by decide +kernel
theorem dX8_settle_0 : decode cX8_settle 0 = .ok (.iload_n 1, 1) := by decide +kernel
theorem dX8_settle_1 : decode cX8_settle 1 = .ok (.invokestatic 416, 3) := by decide +kernel
theorem dX8_settle_4 : decode cX8_settle 4 = .ok (.ifCond .eq 17, 3) := by decide +kernel
theorem dX8_settle_7 : decode cX8_settle 7 = .ok (.iload_n 2, 1) := by decide +kernel
theorem dX8_settle_8 : decode cX8_settle 8 = .ok (.invokestatic 416, 3) := by decide +kernel
theorem dX8_settle_11 : decode cX8_settle 11 = .ok (.ifCond .eq 10, 3) := by decide +kernel
theorem dX8_settle_14 : decode cX8_settle 14 = .ok (.iload_n 3, 1) := by decide +kernel
theorem dX8_settle_15 : decode cX8_settle 15 = .ok (.invokestatic 416, 3) := by decide +kernel
theorem dX8_settle_18 : decode cX8_settle 18 = .ok (.ifCond .ne 5, 3) := by decide +kernel
theorem dX8_settle_21 : decode cX8_settle 21 = .ok (.iconst (-1), 1) := by decide +kernel
theorem dX8_settle_22 : decode cX8_settle 22 = .ok (.ireturn, 1) := by decide +kernel
theorem dX8_settle_23 : decode cX8_settle 23 = .ok (.bipush (-9), 2) := by decide +kernel
theorem dX8_settle_25 : decode cX8_settle 25 = .ok (.istore 4, 2) := by decide +kernel
theorem dX8_settle_27 : decode cX8_settle 27 = .ok (.iconst 0, 1) := by decide +kernel
theorem dX8_settle_28 : decode cX8_settle 28 = .ok (.istore 5, 2) := by decide +kernel
theorem dX8_settle_30 : decode cX8_settle 30 = .ok (.iconst 0, 1) := by decide +kernel
theorem dX8_settle_31 : decode cX8_settle 31 = .ok (.istore 6, 2) := by decide +kernel
theorem dX8_settle_33 : decode cX8_settle 33 = .ok (.iload 6, 2) := by decide +kernel
theorem dX8_settle_35 : decode cX8_settle 35 = .ok (.aload_n 0, 1) := by decide +kernel
theorem dX8_settle_36 : decode cX8_settle 36 = .ok (.getfield 186, 3) := by decide +kernel
theorem dX8_settle_39 : decode cX8_settle 39 = .ok (.if_icmp .gt 61, 3) := by decide +kernel
theorem dX8_settle_42 : decode cX8_settle 42 = .ok (.aload_n 0, 1) := by decide +kernel
theorem dX8_settle_43 : decode cX8_settle 43 = .ok (.iload 6, 2) := by decide +kernel
theorem dX8_settle_45 : decode cX8_settle 45 = .ok (.iload_n 1, 1) := by decide +kernel
theorem dX8_settle_46 : decode cX8_settle 46 = .ok (.iload_n 2, 1) := by decide +kernel
theorem dX8_settle_47 : decode cX8_settle 47 = .ok (.invokevirtual 419, 3) := by decide +kernel
theorem dX8_settle_50 : decode cX8_settle 50 = .ok (.istore 7, 2) := by decide +kernel
theorem dX8_settle_52 : decode cX8_settle 52 = .ok (.iload 7, 2) := by decide +kernel
theorem dX8_settle_54 : decode cX8_settle 54 = .ok (.sipush 1000, 3) := by decide +kernel
theorem dX8_settle_57 : decode cX8_settle 57 = .ok (.idiv, 1) := by decide +kernel
theorem dX8_settle_58 : decode cX8_settle 58 = .ok (.iload_n 3, 1) := by decide +kernel
theorem dX8_settle_59 : decode cX8_settle 59 = .ok (.iload 6, 2) := by decide +kernel
theorem dX8_settle_61 : decode cX8_settle 61 = .ok (.imul, 1) := by decide +kernel
theorem dX8_settle_62 : decode cX8_settle 62 = .ok (.iadd, 1) := by decide +kernel
theorem dX8_settle_63 : decode cX8_settle 63 = .ok (.istore 8, 2) := by decide +kernel
theorem dX8_settle_65 : decode cX8_settle 65 = .ok (.iload 7, 2) := by decide +kernel
theorem dX8_settle_67 : decode cX8_settle 67 = .ok (.bipush (-9), 2) := by decide +kernel
theorem dX8_settle_69 : decode cX8_settle 69 = .ok (.if_icmp .eq 25, 3) := by decide +kernel
theorem dX8_settle_72 : decode cX8_settle 72 = .ok (.iload 4, 2) := by decide +kernel
theorem dX8_settle_74 : decode cX8_settle 74 = .ok (.bipush (-9), 2) := by decide +kernel
theorem dX8_settle_76 : decode cX8_settle 76 = .ok (.if_icmp .eq 10, 3) := by decide +kernel
theorem dX8_settle_79 : decode cX8_settle 79 = .ok (.iload 8, 2) := by decide +kernel
theorem dX8_settle_81 : decode cX8_settle 81 = .ok (.iload 5, 2) := by decide +kernel
theorem dX8_settle_83 : decode cX8_settle 83 = .ok (.if_icmp .ge 11, 3) := by decide +kernel
theorem dX8_settle_86 : decode cX8_settle 86 = .ok (.iload 6, 2) := by decide +kernel
theorem dX8_settle_88 : decode cX8_settle 88 = .ok (.istore 4, 2) := by decide +kernel
theorem dX8_settle_90 : decode cX8_settle 90 = .ok (.iload 8, 2) := by decide +kernel
theorem dX8_settle_92 : decode cX8_settle 92 = .ok (.istore 5, 2) := by decide +kernel
theorem dX8_settle_94 : decode cX8_settle 94 = .ok (.iinc 6 1, 3) := by decide +kernel
theorem dX8_settle_97 : decode cX8_settle 97 = .ok (.goto (-64), 3) := by decide +kernel
theorem dX8_settle_100 : decode cX8_settle 100 = .ok (.iload 4, 2) := by decide +kernel
theorem dX8_settle_102 : decode cX8_settle 102 = .ok (.bipush (-9), 2) := by decide +kernel
theorem dX8_settle_104 : decode cX8_settle 104 = .ok (.if_icmp .ne 8, 3) := by decide +kernel
theorem dX8_settle_107 : decode cX8_settle 107 = .ok (.bipush (-9), 2) := by decide +kernel
theorem dX8_settle_109 : decode cX8_settle 109 = .ok (.goto 11, 3) := by decide +kernel
theorem dX8_settle_112 : decode cX8_settle 112 = .ok (.aload_n 0, 1) := by decide +kernel
theorem dX8_settle_113 : decode cX8_settle 113 = .ok (.iload 5, 2) := by decide +kernel
theorem dX8_settle_115 : decode cX8_settle 115 = .ok (.iload 4, 2) := by decide +kernel
theorem dX8_settle_117 : decode cX8_settle 117 = .ok (.invokevirtual 130, 3) := by decide +kernel
theorem dX8_settle_120 : decode cX8_settle 120 = .ok (.ireturn, 1) := by decide +kernel
theorem dX8_stuck_0 : decode cX8_stuck 0 = .ok (.aload_n 0, 1) := by decide +kernel
theorem dX8_stuck_1 : decode cX8_stuck 1 = .ok (.iconst 0, 1) := by decide +kernel
theorem dX8_stuck_2 : decode cX8_stuck 2 = .ok (.aload_n 0, 1) := by decide +kernel
theorem dX8_stuck_3 : decode cX8_stuck 3 = .ok (.getfield 186, 3) := by decide +kernel
theorem dX8_stuck_6 : decode cX8_stuck 6 = .ok (.invokevirtual 310, 3) := by decide +kernel
theorem dX8_stuck_9 : decode cX8_stuck 9 = .ok (.ifCond .eq 12, 3) := by decide +kernel
theorem dX8_stuck_12 : decode cX8_stuck 12 = .ok (.aload_n 0, 1) := by decide +kernel
theorem dX8_stuck_13 : decode cX8_stuck 13 = .ok (.invokevirtual 313, 3) := by decide +kernel
theorem dX8_stuck_16 : decode cX8_stuck 16 = .ok (.bipush (-9), 2) := by decide +kernel
theorem dX8_stuck_18 : decode cX8_stuck 18 = .ok (.if_icmp .eq 73, 3) := by decide +kernel
theorem dX8_stuck_21 : decode cX8_stuck 21 = .ok (.iconst 0, 1) := by decide +kernel
theorem dX8_stuck_22 : decode cX8_stuck 22 = .ok (.istore_n 1, 1) := by decide +kernel
theorem dX8_stuck_23 : decode cX8_stuck 23 = .ok (.iload_n 1, 1) := by decide +kernel
theorem dX8_stuck_24 : decode cX8_stuck 24 = .ok (.aload_n 0, 1) := by decide +kernel
theorem dX8_stuck_25 : decode cX8_stuck 25 = .ok (.getfield 183, 3) := by decide +kernel
theorem dX8_stuck_28 : decode cX8_stuck 28 = .ok (.if_icmp .ge 60, 3) := by decide +kernel
theorem dX8_stuck_31 : decode cX8_stuck 31 = .ok (.aload_n 0, 1) := by decide +kernel
theorem dX8_stuck_32 : decode cX8_stuck 32 = .ok (.getfield 99, 3) := by decide +kernel
theorem dX8_stuck_35 : decode cX8_stuck 35 = .ok (.iconst 1, 1) := by decide +kernel
theorem dX8_stuck_36 : decode cX8_stuck 36 = .ok (.isub, 1) := by decide +kernel
theorem dX8_stuck_37 : decode cX8_stuck 37 = .ok (.istore_n 2, 1) := by decide +kernel
theorem dX8_stuck_38 : decode cX8_stuck 38 = .ok (.iload_n 2, 1) := by decide +kernel
theorem dX8_stuck_39 : decode cX8_stuck 39 = .ok (.ifCond .lt 43, 3) := by decide +kernel
theorem dX8_stuck_42 : decode cX8_stuck 42 = .ok (.aload_n 0, 1) := by decide +kernel
theorem dX8_stuck_43 : decode cX8_stuck 43 = .ok (.iload_n 1, 1) := by decide +kernel
theorem dX8_stuck_44 : decode cX8_stuck 44 = .ok (.invokevirtual 195, 3) := by decide +kernel
theorem dX8_stuck_47 : decode cX8_stuck 47 = .ok (.ifCond .eq 35, 3) := by decide +kernel
theorem dX8_stuck_50 : decode cX8_stuck 50 = .ok (.aload_n 0, 1) := by decide +kernel
theorem dX8_stuck_51 : decode cX8_stuck 51 = .ok (.iload_n 1, 1) := by decide +kernel
theorem dX8_stuck_52 : decode cX8_stuck 52 = .ok (.putfield 243, 3) := by decide +kernel
theorem dX8_stuck_55 : decode cX8_stuck 55 = .ok (.aload_n 0, 1) := by decide +kernel
theorem dX8_stuck_56 : decode cX8_stuck 56 = .ok (.iload_n 2, 1) := by decide +kernel
theorem dX8_stuck_57 : decode cX8_stuck 57 = .ok (.putfield 246, 3) := by decide +kernel
theorem dX8_stuck_60 : decode cX8_stuck 60 = .ok (.aload_n 0, 1) := by decide +kernel
theorem dX8_stuck_61 : decode cX8_stuck 61 = .ok (.invokevirtual 313, 3) := by decide +kernel
theorem dX8_stuck_64 : decode cX8_stuck 64 = .ok (.bipush (-9), 2) := by decide +kernel
theorem dX8_stuck_66 : decode cX8_stuck 66 = .ok (.if_icmp .ne 10, 3) := by decide +kernel
theorem dX8_stuck_69 : decode cX8_stuck 69 = .ok (.bipush 100, 2) := by decide +kernel
theorem dX8_stuck_71 : decode cX8_stuck 71 = .ok (.iload_n 1, 1) := by decide +kernel
theorem dX8_stuck_72 : decode cX8_stuck 72 = .ok (.imul, 1) := by decide +kernel
theorem dX8_stuck_73 : decode cX8_stuck 73 = .ok (.iload_n 2, 1) := by decide +kernel
theorem dX8_stuck_74 : decode cX8_stuck 74 = .ok (.iadd, 1) := by decide +kernel
theorem dX8_stuck_75 : decode cX8_stuck 75 = .ok (.ireturn, 1) := by decide +kernel
theorem dX8_stuck_76 : decode cX8_stuck 76 = .ok (.iinc 2 (-1), 3) := by decide +kernel
theorem dX8_stuck_79 : decode cX8_stuck 79 = .ok (.goto (-41), 3) := by decide +kernel
theorem dX8_stuck_82 : decode cX8_stuck 82 = .ok (.iinc 1 1, 3) := by decide +kernel
theorem dX8_stuck_85 : decode cX8_stuck 85 = .ok (.goto (-62), 3) := by decide +kernel
theorem dX8_stuck_88 : decode cX8_stuck 88 = .ok (.bipush (-9), 2) := by decide +kernel
theorem dX8_stuck_90 : decode cX8_stuck 90 = .ok (.ireturn, 1) := by decide +kernel
theorem dX8_stuck_91 : decode cX8_stuck 91 = .ok (.bipush (-4), 2) := by decide +kernel
theorem dX8_stuck_93 : decode cX8_stuck 93 = .ok (.ireturn, 1) := by decide +kernel
theorem dX8_quarrel_0 : decode cX8_quarrel 0 = .ok (.aload_n 0, 1) := by decide +kernel
theorem dX8_quarrel_1 : decode cX8_quarrel 1 = .ok (.iconst 0, 1) := by decide +kernel
theorem dX8_quarrel_2 : decode cX8_quarrel 2 = .ok (.aload_n 0, 1) := by decide +kernel
theorem dX8_quarrel_3 : decode cX8_quarrel 3 = .ok (.getfield 186, 3) := by decide +kernel
theorem dX8_quarrel_6 : decode cX8_quarrel 6 = .ok (.invokevirtual 310, 3) := by decide +kernel
theorem dX8_quarrel_9 : decode cX8_quarrel 9 = .ok (.ifCond .eq 15, 3) := by decide +kernel
theorem dX8_quarrel_12 : decode cX8_quarrel 12 = .ok (.aload_n 0, 1) := by decide +kernel
theorem dX8_quarrel_13 : decode cX8_quarrel 13 = .ok (.invokevirtual 313, 3) := by decide +kernel
theorem dX8_quarrel_16 : decode cX8_quarrel 16 = .ok (.bipush (-9), 2) := by decide +kernel
theorem dX8_quarrel_18 : decode cX8_quarrel 18 = .ok (.if_icmp .ne 6, 3) := by decide +kernel
theorem dX8_quarrel_21 : decode cX8_quarrel 21 = .ok (.bipush (-4), 2) := by decide +kernel
theorem dX8_quarrel_23 : decode cX8_quarrel 23 = .ok (.ireturn, 1) := by decide +kernel
theorem dX8_quarrel_24 : decode cX8_quarrel 24 = .ok (.iconst 0, 1) := by decide +kernel
theorem dX8_quarrel_25 : decode cX8_quarrel 25 = .ok (.istore_n 1, 1) := by decide +kernel
theorem dX8_quarrel_26 : decode cX8_quarrel 26 = .ok (.iconst 0, 1) := by decide +kernel
theorem dX8_quarrel_27 : decode cX8_quarrel 27 = .ok (.istore_n 2, 1) := by decide +kernel
theorem dX8_quarrel_28 : decode cX8_quarrel 28 = .ok (.iload_n 2, 1) := by decide +kernel
theorem dX8_quarrel_29 : decode cX8_quarrel 29 = .ok (.aload_n 0, 1) := by decide +kernel
theorem dX8_quarrel_30 : decode cX8_quarrel 30 = .ok (.getfield 217, 3) := by decide +kernel
theorem dX8_quarrel_33 : decode cX8_quarrel 33 = .ok (.if_icmp .ge 42, 3) := by decide +kernel
theorem dX8_quarrel_36 : decode cX8_quarrel 36 = .ok (.aload_n 0, 1) := by decide +kernel
theorem dX8_quarrel_37 : decode cX8_quarrel 37 = .ok (.iload_n 1, 1) := by decide +kernel
theorem dX8_quarrel_38 : decode cX8_quarrel 38 = .ok (.iconst 1, 1) := by decide +kernel
theorem dX8_quarrel_39 : decode cX8_quarrel 39 = .ok (.iload_n 2, 1) := by decide +kernel
theorem dX8_quarrel_40 : decode cX8_quarrel 40 = .ok (.ishl, 1) := by decide +kernel
theorem dX8_quarrel_41 : decode cX8_quarrel 41 = .ok (.ior, 1) := by decide +kernel
theorem dX8_quarrel_42 : decode cX8_quarrel 42 = .ok (.aload_n 0, 1) := by decide +kernel
theorem dX8_quarrel_43 : decode cX8_quarrel 43 = .ok (.getfield 186, 3) := by decide +kernel
theorem dX8_quarrel_46 : decode cX8_quarrel 46 = .ok (.invokevirtual 310, 3) := by decide +kernel
theorem dX8_quarrel_49 : decode cX8_quarrel 49 = .ok (.pop, 1) := by decide +kernel
theorem dX8_quarrel_50 : decode cX8_quarrel 50 = .ok (.iload_n 1, 1) := by decide +kernel
theorem dX8_quarrel_51 : decode cX8_quarrel 51 = .ok (.aload_n 0, 1) := by decide +kernel
theorem dX8_quarrel_52 : decode cX8_quarrel 52 = .ok (.invokevirtual 313, 3) := by decide +kernel
theorem dX8_quarrel_55 : decode cX8_quarrel 55 = .ok (.bipush (-9), 2) := by decide +kernel
theorem dX8_quarrel_57 : decode cX8_quarrel 57 = .ok (.if_icmp .eq 9, 3) := by decide +kernel
theorem dX8_quarrel_60 : decode cX8_quarrel 60 = .ok (.iconst 1, 1) := by decide +kernel
theorem dX8_quarrel_61 : decode cX8_quarrel 61 = .ok (.iload_n 2, 1) := by decide +kernel
theorem dX8_quarrel_62 : decode cX8_quarrel 62 = .ok (.ishl, 1) := by decide +kernel
theorem dX8_quarrel_63 : decode cX8_quarrel 63 = .ok (.goto 4, 3) := by decide +kernel
theorem dX8_quarrel_66 : decode cX8_quarrel 66 = .ok (.iconst 0, 1) := by decide +kernel
theorem dX8_quarrel_67 : decode cX8_quarrel 67 = .ok (.ior, 1) := by decide +kernel
theorem dX8_quarrel_68 : decode cX8_quarrel 68 = .ok (.istore_n 1, 1) := by decide +kernel
theorem dX8_quarrel_69 : decode cX8_quarrel 69 = .ok (.iinc 2 1, 3) := by decide +kernel
theorem dX8_quarrel_72 : decode cX8_quarrel 72 = .ok (.goto (-44), 3) := by decide +kernel
theorem dX8_quarrel_75 : decode cX8_quarrel 75 = .ok (.aload_n 0, 1) := by decide +kernel
theorem dX8_quarrel_76 : decode cX8_quarrel 76 = .ok (.lconst 1, 1) := by decide +kernel
theorem dX8_quarrel_77 : decode cX8_quarrel 77 = .ok (.aload_n 0, 1) := by decide +kernel
theorem dX8_quarrel_78 : decode cX8_quarrel 78 = .ok (.getfield 217, 3) := by decide +kernel
theorem dX8_quarrel_81 : decode cX8_quarrel 81 = .ok (.lshl, 1) := by decide +kernel
theorem dX8_quarrel_82 : decode cX8_quarrel 82 = .ok (.lconst 1, 1) := by decide +kernel
theorem dX8_quarrel_83 : decode cX8_quarrel 83 = .ok (.lsub, 1) := by decide +kernel
theorem dX8_quarrel_84 : decode cX8_quarrel 84 = .ok (.iload_n 1, 1) := by decide +kernel
theorem dX8_quarrel_85 : decode cX8_quarrel 85 = .ok (.iconst (-1), 1) := by decide +kernel
theorem dX8_quarrel_86 : decode cX8_quarrel 86 = .ok (.ixor, 1) := by decide +kernel
theorem dX8_quarrel_87 : decode cX8_quarrel 87 = .ok (.i2l, 1) := by decide +kernel
theorem dX8_quarrel_88 : decode cX8_quarrel 88 = .ok (.land, 1) := by decide +kernel
theorem dX8_quarrel_89 : decode cX8_quarrel 89 = .ok (.putfield 112, 3) := by decide +kernel
theorem dX8_quarrel_92 : decode cX8_quarrel 92 = .ok (.aload_n 0, 1) := by decide +kernel
theorem dX8_quarrel_93 : decode cX8_quarrel 93 = .ok (.getfield 217, 3) := by decide +kernel
theorem dX8_quarrel_96 : decode cX8_quarrel 96 = .ok (.iload_n 1, 1) := by decide +kernel
theorem dX8_quarrel_97 : decode cX8_quarrel 97 = .ok (.invokestatic 413, 3) := by decide +kernel
theorem dX8_quarrel_100 : decode cX8_quarrel 100 = .ok (.isub, 1) := by decide +kernel
theorem dX8_quarrel_101 : decode cX8_quarrel 101 = .ok (.ireturn, 1) := by decide +kernel
theorem dX8_counted_0 : decode cX8_counted 0 = .ok (.iconst 0, 1) := by decide +kernel
theorem dX8_counted_1 : decode cX8_counted 1 = .ok (.istore_n 2, 1) := by decide +kernel
theorem dX8_counted_2 : decode cX8_counted 2 = .ok (.iconst 0, 1) := by decide +kernel
theorem dX8_counted_3 : decode cX8_counted 3 = .ok (.istore_n 3, 1) := by decide +kernel
theorem dX8_counted_4 : decode cX8_counted 4 = .ok (.iload_n 3, 1) := by decide +kernel
theorem dX8_counted_5 : decode cX8_counted 5 = .ok (.aload_n 0, 1) := by decide +kernel
theorem dX8_counted_6 : decode cX8_counted 6 = .ok (.getfield 217, 3) := by decide +kernel
theorem dX8_counted_9 : decode cX8_counted 9 = .ok (.if_icmp .ge 31, 3) := by decide +kernel
theorem dX8_counted_12 : decode cX8_counted 12 = .ok (.iload_n 2, 1) := by decide +kernel
theorem dX8_counted_13 : decode cX8_counted 13 = .ok (.iload_n 1, 1) := by decide +kernel
theorem dX8_counted_14 : decode cX8_counted 14 = .ok (.iconst 5, 1) := by decide +kernel
theorem dX8_counted_15 : decode cX8_counted 15 = .ok (.if_icmp .ne 16, 3) := by decide +kernel
theorem dX8_counted_18 : decode cX8_counted 18 = .ok (.aload_n 0, 1) := by decide +kernel
theorem dX8_counted_19 : decode cX8_counted 19 = .ok (.iload_n 3, 1) := by decide +kernel
theorem dX8_counted_20 : decode cX8_counted 20 = .ok (.iconst 2, 1) := by decide +kernel
theorem dX8_counted_21 : decode cX8_counted 21 = .ok (.invokevirtual 237, 3) := by decide +kernel
theorem dX8_counted_24 : decode cX8_counted 24 = .ok (.ifCond .eq 7, 3) := by decide +kernel
theorem dX8_counted_27 : decode cX8_counted 27 = .ok (.iconst 1, 1) := by decide +kernel
theorem dX8_counted_28 : decode cX8_counted 28 = .ok (.goto 4, 3) := by decide +kernel
theorem dX8_counted_31 : decode cX8_counted 31 = .ok (.iconst 0, 1) := by decide +kernel
theorem dX8_counted_32 : decode cX8_counted 32 = .ok (.iadd, 1) := by decide +kernel
theorem dX8_counted_33 : decode cX8_counted 33 = .ok (.istore_n 2, 1) := by decide +kernel
theorem dX8_counted_34 : decode cX8_counted 34 = .ok (.iinc 3 1, 3) := by decide +kernel
theorem dX8_counted_37 : decode cX8_counted 37 = .ok (.goto (-33), 3) := by decide +kernel
theorem dX8_counted_40 : decode cX8_counted 40 = .ok (.iconst 0, 1) := by decide +kernel
theorem dX8_counted_41 : decode cX8_counted 41 = .ok (.istore_n 3, 1) := by decide +kernel
theorem dX8_counted_42 : decode cX8_counted 42 = .ok (.iload_n 3, 1) := by decide +kernel
theorem dX8_counted_43 : decode cX8_counted 43 = .ok (.bipush 6, 2) := by decide +kernel
theorem dX8_counted_45 : decode cX8_counted 45 = .ok (.if_icmp .ge 32, 3) := by decide +kernel
theorem dX8_counted_48 : decode cX8_counted 48 = .ok (.iload_n 2, 1) := by decide +kernel
theorem dX8_counted_49 : decode cX8_counted 49 = .ok (.iload_n 1, 1) := by decide +kernel
theorem dX8_counted_50 : decode cX8_counted 50 = .ok (.bipush 6, 2) := by decide +kernel
theorem dX8_counted_52 : decode cX8_counted 52 = .ok (.if_icmp .ne 16, 3) := by decide +kernel
theorem dX8_counted_55 : decode cX8_counted 55 = .ok (.aload_n 0, 1) := by decide +kernel
theorem dX8_counted_56 : decode cX8_counted 56 = .ok (.getfield 13, 3) := by decide +kernel
theorem dX8_counted_59 : decode cX8_counted 59 = .ok (.iload_n 3, 1) := by decide +kernel
theorem dX8_counted_60 : decode cX8_counted 60 = .ok (.iaload, 1) := by decide +kernel
theorem dX8_counted_61 : decode cX8_counted 61 = .ok (.ifCond .lt 7, 3) := by decide +kernel
theorem dX8_counted_64 : decode cX8_counted 64 = .ok (.iconst 1, 1) := by decide +kernel
theorem dX8_counted_65 : decode cX8_counted 65 = .ok (.goto 4, 3) := by decide +kernel
theorem dX8_counted_68 : decode cX8_counted 68 = .ok (.iconst 0, 1) := by decide +kernel
theorem dX8_counted_69 : decode cX8_counted 69 = .ok (.iadd, 1) := by decide +kernel
theorem dX8_counted_70 : decode cX8_counted 70 = .ok (.istore_n 2, 1) := by decide +kernel
theorem dX8_counted_71 : decode cX8_counted 71 = .ok (.iinc 3 1, 3) := by decide +kernel
theorem dX8_counted_74 : decode cX8_counted 74 = .ok (.goto (-32), 3) := by decide +kernel
theorem dX8_counted_77 : decode cX8_counted 77 = .ok (.iconst 0, 1) := by decide +kernel
theorem dX8_counted_78 : decode cX8_counted 78 = .ok (.istore_n 3, 1) := by decide +kernel
theorem dX8_counted_79 : decode cX8_counted 79 = .ok (.iload_n 3, 1) := by decide +kernel
theorem dX8_counted_80 : decode cX8_counted 80 = .ok (.iconst 4, 1) := by decide +kernel
theorem dX8_counted_81 : decode cX8_counted 81 = .ok (.if_icmp .ge 32, 3) := by decide +kernel
theorem dX8_counted_84 : decode cX8_counted 84 = .ok (.iload_n 2, 1) := by decide +kernel
theorem dX8_counted_85 : decode cX8_counted 85 = .ok (.iload_n 1, 1) := by decide +kernel
theorem dX8_counted_86 : decode cX8_counted 86 = .ok (.bipush 7, 2) := by decide +kernel
theorem dX8_counted_88 : decode cX8_counted 88 = .ok (.if_icmp .ne 16, 3) := by decide +kernel
theorem dX8_counted_91 : decode cX8_counted 91 = .ok (.aload_n 0, 1) := by decide +kernel
theorem dX8_counted_92 : decode cX8_counted 92 = .ok (.getfield 22, 3) := by decide +kernel
theorem dX8_counted_95 : decode cX8_counted 95 = .ok (.iload_n 3, 1) := by decide +kernel
theorem dX8_counted_96 : decode cX8_counted 96 = .ok (.iaload, 1) := by decide +kernel
theorem dX8_counted_97 : decode cX8_counted 97 = .ok (.ifCond .lt 7, 3) := by decide +kernel
theorem dX8_counted_100 : decode cX8_counted 100 = .ok (.iconst 1, 1) := by decide +kernel
theorem dX8_counted_101 : decode cX8_counted 101 = .ok (.goto 4, 3) := by decide +kernel
theorem dX8_counted_104 : decode cX8_counted 104 = .ok (.iconst 0, 1) := by decide +kernel
theorem dX8_counted_105 : decode cX8_counted 105 = .ok (.iadd, 1) := by decide +kernel
theorem dX8_counted_106 : decode cX8_counted 106 = .ok (.istore_n 2, 1) := by decide +kernel
theorem dX8_counted_107 : decode cX8_counted 107 = .ok (.iinc 3 1, 3) := by decide +kernel
theorem dX8_counted_110 : decode cX8_counted 110 = .ok (.goto (-31), 3) := by decide +kernel
theorem dX8_counted_113 : decode cX8_counted 113 = .ok (.iload_n 1, 1) := by decide +kernel
theorem dX8_counted_114 : decode cX8_counted 114 = .ok (.ifCond .ne 10, 3) := by decide +kernel
theorem dX8_counted_117 : decode cX8_counted 117 = .ok (.aload_n 0, 1) := by decide +kernel
theorem dX8_counted_118 : decode cX8_counted 118 = .ok (.getfield 95, 3) := by decide +kernel
theorem dX8_counted_121 : decode cX8_counted 121 = .ok (.goto 52, 3) := by decide +kernel
theorem dX8_counted_124 : decode cX8_counted 124 = .ok (.iload_n 1, 1) := by decide +kernel
theorem dX8_counted_125 : decode cX8_counted 125 = .ok (.iconst 1, 1) := by decide +kernel
theorem dX8_counted_126 : decode cX8_counted 126 = .ok (.if_icmp .ne 10, 3) := by decide +kernel
theorem dX8_counted_129 : decode cX8_counted 129 = .ok (.aload_n 0, 1) := by decide +kernel
theorem dX8_counted_130 : decode cX8_counted 130 = .ok (.getfield 183, 3) := by decide +kernel
theorem dX8_counted_133 : decode cX8_counted 133 = .ok (.goto 40, 3) := by decide +kernel
theorem dX8_counted_136 : decode cX8_counted 136 = .ok (.iload_n 1, 1) := by decide +kernel
theorem dX8_counted_137 : decode cX8_counted 137 = .ok (.iconst 2, 1) := by decide +kernel
theorem dX8_counted_138 : decode cX8_counted 138 = .ok (.if_icmp .ne 10, 3) := by decide +kernel
theorem dX8_counted_141 : decode cX8_counted 141 = .ok (.aload_n 0, 1) := by decide +kernel
theorem dX8_counted_142 : decode cX8_counted 142 = .ok (.getfield 186, 3) := by decide +kernel
theorem dX8_counted_145 : decode cX8_counted 145 = .ok (.goto 28, 3) := by decide +kernel
theorem dX8_counted_148 : decode cX8_counted 148 = .ok (.iload_n 1, 1) := by decide +kernel
theorem dX8_counted_149 : decode cX8_counted 149 = .ok (.iconst 3, 1) := by decide +kernel
theorem dX8_counted_150 : decode cX8_counted 150 = .ok (.if_icmp .ne 10, 3) := by decide +kernel
theorem dX8_counted_153 : decode cX8_counted 153 = .ok (.aload_n 0, 1) := by decide +kernel
theorem dX8_counted_154 : decode cX8_counted 154 = .ok (.getfield 99, 3) := by decide +kernel
theorem dX8_counted_157 : decode cX8_counted 157 = .ok (.goto 16, 3) := by decide +kernel
theorem dX8_counted_160 : decode cX8_counted 160 = .ok (.iload_n 1, 1) := by decide +kernel
theorem dX8_counted_161 : decode cX8_counted 161 = .ok (.iconst 4, 1) := by decide +kernel
theorem dX8_counted_162 : decode cX8_counted 162 = .ok (.if_icmp .ne 10, 3) := by decide +kernel
theorem dX8_counted_165 : decode cX8_counted 165 = .ok (.aload_n 0, 1) := by decide +kernel
theorem dX8_counted_166 : decode cX8_counted 166 = .ok (.getfield 217, 3) := by decide +kernel
theorem dX8_counted_169 : decode cX8_counted 169 = .ok (.goto 4, 3) := by decide +kernel
theorem dX8_counted_172 : decode cX8_counted 172 = .ok (.iload_n 2, 1) := by decide +kernel
theorem dX8_counted_173 : decode cX8_counted 173 = .ok (.ireturn, 1) := by decide +kernel
theorem dX8_count_0 : decode cX8_count 0 = .ok (.iload_n 1, 1) := by decide +kernel
theorem dX8_count_1 : decode cX8_count 1 = .ok (.iconst 0, 1) := by decide +kernel
theorem dX8_count_2 : decode cX8_count 2 = .ok (.bipush 7, 2) := by decide +kernel
theorem dX8_count_4 : decode cX8_count 4 = .ok (.invokestatic 105, 3) := by decide +kernel
theorem dX8_count_7 : decode cX8_count 7 = .ok (.ifCond .eq 11, 3) := by decide +kernel
theorem dX8_count_10 : decode cX8_count 10 = .ok (.aload_n 0, 1) := by decide +kernel
theorem dX8_count_11 : decode cX8_count 11 = .ok (.iload_n 1, 1) := by decide +kernel
theorem dX8_count_12 : decode cX8_count 12 = .ok (.invokevirtual 423, 3) := by decide +kernel
theorem dX8_count_15 : decode cX8_count 15 = .ok (.goto 4, 3) := by decide +kernel
theorem dX8_count_18 : decode cX8_count 18 = .ok (.iconst (-1), 1) := by decide +kernel
theorem dX8_count_19 : decode cX8_count 19 = .ok (.ireturn, 1) := by decide +kernel
theorem dX8_mix_0 : decode cX8_mix 0 = .ok (.aload_n 0, 1) := by decide +kernel
theorem dX8_mix_1 : decode cX8_mix 1 = .ok (.ldc2_w 426, 3) := by decide +kernel
theorem dX8_mix_4 : decode cX8_mix 4 = .ok (.aload_n 0, 1) := by decide +kernel
theorem dX8_mix_5 : decode cX8_mix 5 = .ok (.getfield 428, 3) := by decide +kernel
theorem dX8_mix_8 : decode cX8_mix 8 = .ok (.lmul, 1) := by decide +kernel
theorem dX8_mix_9 : decode cX8_mix 9 = .ok (.lload_n 1, 1) := by decide +kernel
theorem dX8_mix_10 : decode cX8_mix 10 = .ok (.ladd, 1) := by decide +kernel
theorem dX8_mix_11 : decode cX8_mix 11 = .ok (.putfield 428, 3) := by decide +kernel
theorem dX8_mix_14 : decode cX8_mix 14 = .ok (.return_, 1) := by decide +kernel
theorem dX8_mixHouse_0 : decode cX8_mixHouse 0 = .ok (.iconst 0, 1) := by decide +kernel
theorem dX8_mixHouse_1 : decode cX8_mixHouse 1 = .ok (.istore_n 1, 1) := by decide +kernel
theorem dX8_mixHouse_2 : decode cX8_mixHouse 2 = .ok (.iload_n 1, 1) := by decide +kernel
theorem dX8_mixHouse_3 : decode cX8_mixHouse 3 = .ok (.aload_n 0, 1) := by decide +kernel
theorem dX8_mixHouse_4 : decode cX8_mixHouse 4 = .ok (.getfield 183, 3) := by decide +kernel
theorem dX8_mixHouse_7 : decode cX8_mixHouse 7 = .ok (.if_icmp .ge 37, 3) := by decide +kernel
theorem dX8_mixHouse_10 : decode cX8_mixHouse 10 = .ok (.iconst 0, 1) := by decide +kernel
theorem dX8_mixHouse_11 : decode cX8_mixHouse 11 = .ok (.istore_n 2, 1) := by decide +kernel
theorem dX8_mixHouse_12 : decode cX8_mixHouse 12 = .ok (.iload_n 2, 1) := by decide +kernel
theorem dX8_mixHouse_13 : decode cX8_mixHouse 13 = .ok (.iconst 3, 1) := by decide +kernel
theorem dX8_mixHouse_14 : decode cX8_mixHouse 14 = .ok (.if_icmp .ge 24, 3) := by decide +kernel
theorem dX8_mixHouse_17 : decode cX8_mixHouse 17 = .ok (.aload_n 0, 1) := by decide +kernel
theorem dX8_mixHouse_18 : decode cX8_mixHouse 18 = .ok (.aload_n 0, 1) := by decide +kernel
theorem dX8_mixHouse_19 : decode cX8_mixHouse 19 = .ok (.getfield 29, 3) := by decide +kernel
theorem dX8_mixHouse_22 : decode cX8_mixHouse 22 = .ok (.iconst 3, 1) := by decide +kernel
theorem dX8_mixHouse_23 : decode cX8_mixHouse 23 = .ok (.iload_n 1, 1) := by decide +kernel
theorem dX8_mixHouse_24 : decode cX8_mixHouse 24 = .ok (.imul, 1) := by decide +kernel
theorem dX8_mixHouse_25 : decode cX8_mixHouse 25 = .ok (.iload_n 2, 1) := by decide +kernel
theorem dX8_mixHouse_26 : decode cX8_mixHouse 26 = .ok (.iadd, 1) := by decide +kernel
theorem dX8_mixHouse_27 : decode cX8_mixHouse 27 = .ok (.iaload, 1) := by decide +kernel
theorem dX8_mixHouse_28 : decode cX8_mixHouse 28 = .ok (.i2l, 1) := by decide +kernel
theorem dX8_mixHouse_29 : decode cX8_mixHouse 29 = .ok (.invokevirtual 431, 3) := by decide +kernel
theorem dX8_mixHouse_32 : decode cX8_mixHouse 32 = .ok (.iinc 2 1, 3) := by decide +kernel
theorem dX8_mixHouse_35 : decode cX8_mixHouse 35 = .ok (.goto (-23), 3) := by decide +kernel
theorem dX8_mixHouse_38 : decode cX8_mixHouse 38 = .ok (.iinc 1 1, 3) := by decide +kernel
theorem dX8_mixHouse_41 : decode cX8_mixHouse 41 = .ok (.goto (-39), 3) := by decide +kernel
theorem dX8_mixHouse_44 : decode cX8_mixHouse 44 = .ok (.iconst 0, 1) := by decide +kernel
theorem dX8_mixHouse_45 : decode cX8_mixHouse 45 = .ok (.istore_n 1, 1) := by decide +kernel
theorem dX8_mixHouse_46 : decode cX8_mixHouse 46 = .ok (.iload_n 1, 1) := by decide +kernel
theorem dX8_mixHouse_47 : decode cX8_mixHouse 47 = .ok (.aload_n 0, 1) := by decide +kernel
theorem dX8_mixHouse_48 : decode cX8_mixHouse 48 = .ok (.getfield 186, 3) := by decide +kernel
theorem dX8_mixHouse_51 : decode cX8_mixHouse 51 = .ok (.if_icmp .ge 37, 3) := by decide +kernel
theorem dX8_mixHouse_54 : decode cX8_mixHouse 54 = .ok (.aload_n 0, 1) := by decide +kernel
theorem dX8_mixHouse_55 : decode cX8_mixHouse 55 = .ok (.aload_n 0, 1) := by decide +kernel
theorem dX8_mixHouse_56 : decode cX8_mixHouse 56 = .ok (.getfield 32, 3) := by decide +kernel
theorem dX8_mixHouse_59 : decode cX8_mixHouse 59 = .ok (.iconst 2, 1) := by decide +kernel
theorem dX8_mixHouse_60 : decode cX8_mixHouse 60 = .ok (.iload_n 1, 1) := by decide +kernel
theorem dX8_mixHouse_61 : decode cX8_mixHouse 61 = .ok (.imul, 1) := by decide +kernel
theorem dX8_mixHouse_62 : decode cX8_mixHouse 62 = .ok (.iaload, 1) := by decide +kernel
theorem dX8_mixHouse_63 : decode cX8_mixHouse 63 = .ok (.i2l, 1) := by decide +kernel
theorem dX8_mixHouse_64 : decode cX8_mixHouse 64 = .ok (.invokevirtual 431, 3) := by decide +kernel
theorem dX8_mixHouse_67 : decode cX8_mixHouse 67 = .ok (.aload_n 0, 1) := by decide +kernel
theorem dX8_mixHouse_68 : decode cX8_mixHouse 68 = .ok (.aload_n 0, 1) := by decide +kernel
theorem dX8_mixHouse_69 : decode cX8_mixHouse 69 = .ok (.getfield 32, 3) := by decide +kernel
theorem dX8_mixHouse_72 : decode cX8_mixHouse 72 = .ok (.iconst 2, 1) := by decide +kernel
theorem dX8_mixHouse_73 : decode cX8_mixHouse 73 = .ok (.iload_n 1, 1) := by decide +kernel
theorem dX8_mixHouse_74 : decode cX8_mixHouse 74 = .ok (.imul, 1) := by decide +kernel
theorem dX8_mixHouse_75 : decode cX8_mixHouse 75 = .ok (.iconst 1, 1) := by decide +kernel
theorem dX8_mixHouse_76 : decode cX8_mixHouse 76 = .ok (.iadd, 1) := by decide +kernel
theorem dX8_mixHouse_77 : decode cX8_mixHouse 77 = .ok (.iaload, 1) := by decide +kernel
theorem dX8_mixHouse_78 : decode cX8_mixHouse 78 = .ok (.i2l, 1) := by decide +kernel
theorem dX8_mixHouse_79 : decode cX8_mixHouse 79 = .ok (.invokevirtual 431, 3) := by decide +kernel
theorem dX8_mixHouse_82 : decode cX8_mixHouse 82 = .ok (.iinc 1 1, 3) := by decide +kernel
theorem dX8_mixHouse_85 : decode cX8_mixHouse 85 = .ok (.goto (-39), 3) := by decide +kernel
theorem dX8_mixHouse_88 : decode cX8_mixHouse 88 = .ok (.iconst 0, 1) := by decide +kernel
theorem dX8_mixHouse_89 : decode cX8_mixHouse 89 = .ok (.istore_n 1, 1) := by decide +kernel
theorem dX8_mixHouse_90 : decode cX8_mixHouse 90 = .ok (.iload_n 1, 1) := by decide +kernel
theorem dX8_mixHouse_91 : decode cX8_mixHouse 91 = .ok (.aload_n 0, 1) := by decide +kernel
theorem dX8_mixHouse_92 : decode cX8_mixHouse 92 = .ok (.getfield 217, 3) := by decide +kernel
theorem dX8_mixHouse_95 : decode cX8_mixHouse 95 = .ok (.if_icmp .ge 33, 3) := by decide +kernel
theorem dX8_mixHouse_98 : decode cX8_mixHouse 98 = .ok (.iconst 0, 1) := by decide +kernel
theorem dX8_mixHouse_99 : decode cX8_mixHouse 99 = .ok (.istore_n 2, 1) := by decide +kernel
theorem dX8_mixHouse_100 : decode cX8_mixHouse 100 = .ok (.iload_n 2, 1) := by decide +kernel
theorem dX8_mixHouse_101 : decode cX8_mixHouse 101 = .ok (.iconst 4, 1) := by decide +kernel
theorem dX8_mixHouse_102 : decode cX8_mixHouse 102 = .ok (.if_icmp .ge 20, 3) := by decide +kernel
theorem dX8_mixHouse_105 : decode cX8_mixHouse 105 = .ok (.aload_n 0, 1) := by decide +kernel
theorem dX8_mixHouse_106 : decode cX8_mixHouse 106 = .ok (.aload_n 0, 1) := by decide +kernel
theorem dX8_mixHouse_107 : decode cX8_mixHouse 107 = .ok (.iload_n 1, 1) := by decide +kernel
theorem dX8_mixHouse_108 : decode cX8_mixHouse 108 = .ok (.iload_n 2, 1) := by decide +kernel
theorem dX8_mixHouse_109 : decode cX8_mixHouse 109 = .ok (.invokevirtual 234, 3) := by decide +kernel
theorem dX8_mixHouse_112 : decode cX8_mixHouse 112 = .ok (.i2l, 1) := by decide +kernel
theorem dX8_mixHouse_113 : decode cX8_mixHouse 113 = .ok (.invokevirtual 431, 3) := by decide +kernel
theorem dX8_mixHouse_116 : decode cX8_mixHouse 116 = .ok (.iinc 2 1, 3) := by decide +kernel
theorem dX8_mixHouse_119 : decode cX8_mixHouse 119 = .ok (.goto (-19), 3) := by decide +kernel
theorem dX8_mixHouse_122 : decode cX8_mixHouse 122 = .ok (.iinc 1 1, 3) := by decide +kernel
theorem dX8_mixHouse_125 : decode cX8_mixHouse 125 = .ok (.goto (-35), 3) := by decide +kernel
theorem dX8_mixHouse_128 : decode cX8_mixHouse 128 = .ok (.return_, 1) := by decide +kernel
theorem dX8_digest_0 : decode cX8_digest 0 = .ok (.aload_n 0, 1) := by decide +kernel
theorem dX8_digest_1 : decode cX8_digest 1 = .ok (.ldc2_w 435, 3) := by decide +kernel
theorem dX8_digest_4 : decode cX8_digest 4 = .ok (.putfield 428, 3) := by decide +kernel
theorem dX8_digest_7 : decode cX8_digest 7 = .ok (.iconst 0, 1) := by decide +kernel
theorem dX8_digest_8 : decode cX8_digest 8 = .ok (.istore_n 1, 1) := by decide +kernel
theorem dX8_digest_9 : decode cX8_digest 9 = .ok (.iload_n 1, 1) := by decide +kernel
theorem dX8_digest_10 : decode cX8_digest 10 = .ok (.bipush 8, 2) := by decide +kernel
theorem dX8_digest_12 : decode cX8_digest 12 = .ok (.if_icmp .ge 19, 3) := by decide +kernel
theorem dX8_digest_15 : decode cX8_digest 15 = .ok (.aload_n 0, 1) := by decide +kernel
theorem dX8_digest_16 : decode cX8_digest 16 = .ok (.aload_n 0, 1) := by decide +kernel
theorem dX8_digest_17 : decode cX8_digest 17 = .ok (.iload_n 1, 1) := by decide +kernel
theorem dX8_digest_18 : decode cX8_digest 18 = .ok (.invokevirtual 423, 3) := by decide +kernel
theorem dX8_digest_21 : decode cX8_digest 21 = .ok (.i2l, 1) := by decide +kernel
theorem dX8_digest_22 : decode cX8_digest 22 = .ok (.invokevirtual 431, 3) := by decide +kernel
theorem dX8_digest_25 : decode cX8_digest 25 = .ok (.iinc 1 1, 3) := by decide +kernel
theorem dX8_digest_28 : decode cX8_digest 28 = .ok (.goto (-19), 3) := by decide +kernel
theorem dX8_digest_31 : decode cX8_digest 31 = .ok (.aload_n 0, 1) := by decide +kernel
theorem dX8_digest_32 : decode cX8_digest 32 = .ok (.invokevirtual 437, 3) := by decide +kernel
theorem dX8_digest_35 : decode cX8_digest 35 = .ok (.iconst 0, 1) := by decide +kernel
theorem dX8_digest_36 : decode cX8_digest 36 = .ok (.istore_n 1, 1) := by decide +kernel
theorem dX8_digest_37 : decode cX8_digest 37 = .ok (.iload_n 1, 1) := by decide +kernel
theorem dX8_digest_38 : decode cX8_digest 38 = .ok (.bipush 6, 2) := by decide +kernel
theorem dX8_digest_40 : decode cX8_digest 40 = .ok (.if_icmp .ge 49, 3) := by decide +kernel
theorem dX8_digest_43 : decode cX8_digest 43 = .ok (.aload_n 0, 1) := by decide +kernel
theorem dX8_digest_44 : decode cX8_digest 44 = .ok (.aload_n 0, 1) := by decide +kernel
theorem dX8_digest_45 : decode cX8_digest 45 = .ok (.getfield 13, 3) := by decide +kernel
theorem dX8_digest_48 : decode cX8_digest 48 = .ok (.iload_n 1, 1) := by decide +kernel
theorem dX8_digest_49 : decode cX8_digest 49 = .ok (.iaload, 1) := by decide +kernel
theorem dX8_digest_50 : decode cX8_digest 50 = .ok (.i2l, 1) := by decide +kernel
theorem dX8_digest_51 : decode cX8_digest 51 = .ok (.invokevirtual 431, 3) := by decide +kernel
theorem dX8_digest_54 : decode cX8_digest 54 = .ok (.iconst 0, 1) := by decide +kernel
theorem dX8_digest_55 : decode cX8_digest 55 = .ok (.istore_n 2, 1) := by decide +kernel
theorem dX8_digest_56 : decode cX8_digest 56 = .ok (.iload_n 2, 1) := by decide +kernel
theorem dX8_digest_57 : decode cX8_digest 57 = .ok (.aload_n 0, 1) := by decide +kernel
theorem dX8_digest_58 : decode cX8_digest 58 = .ok (.getfield 13, 3) := by decide +kernel
theorem dX8_digest_61 : decode cX8_digest 61 = .ok (.iload_n 1, 1) := by decide +kernel
theorem dX8_digest_62 : decode cX8_digest 62 = .ok (.iaload, 1) := by decide +kernel
theorem dX8_digest_63 : decode cX8_digest 63 = .ok (.if_icmp .ge 20, 3) := by decide +kernel
theorem dX8_digest_66 : decode cX8_digest 66 = .ok (.aload_n 0, 1) := by decide +kernel
theorem dX8_digest_67 : decode cX8_digest 67 = .ok (.aload_n 0, 1) := by decide +kernel
theorem dX8_digest_68 : decode cX8_digest 68 = .ok (.iload_n 1, 1) := by decide +kernel
theorem dX8_digest_69 : decode cX8_digest 69 = .ok (.iload_n 2, 1) := by decide +kernel
theorem dX8_digest_70 : decode cX8_digest 70 = .ok (.invokevirtual 126, 3) := by decide +kernel
theorem dX8_digest_73 : decode cX8_digest 73 = .ok (.i2l, 1) := by decide +kernel
theorem dX8_digest_74 : decode cX8_digest 74 = .ok (.invokevirtual 431, 3) := by decide +kernel
theorem dX8_digest_77 : decode cX8_digest 77 = .ok (.iinc 2 1, 3) := by decide +kernel
theorem dX8_digest_80 : decode cX8_digest 80 = .ok (.goto (-24), 3) := by decide +kernel
theorem dX8_digest_83 : decode cX8_digest 83 = .ok (.iinc 1 1, 3) := by decide +kernel
theorem dX8_digest_86 : decode cX8_digest 86 = .ok (.goto (-49), 3) := by decide +kernel
theorem dX8_digest_89 : decode cX8_digest 89 = .ok (.iconst 0, 1) := by decide +kernel
theorem dX8_digest_90 : decode cX8_digest 90 = .ok (.istore_n 1, 1) := by decide +kernel
theorem dX8_digest_91 : decode cX8_digest 91 = .ok (.iload_n 1, 1) := by decide +kernel
theorem dX8_digest_92 : decode cX8_digest 92 = .ok (.iconst 4, 1) := by decide +kernel
theorem dX8_digest_93 : decode cX8_digest 93 = .ok (.if_icmp .ge 49, 3) := by decide +kernel
theorem dX8_digest_96 : decode cX8_digest 96 = .ok (.aload_n 0, 1) := by decide +kernel
theorem dX8_digest_97 : decode cX8_digest 97 = .ok (.aload_n 0, 1) := by decide +kernel
theorem dX8_digest_98 : decode cX8_digest 98 = .ok (.getfield 22, 3) := by decide +kernel
theorem dX8_digest_101 : decode cX8_digest 101 = .ok (.iload_n 1, 1) := by decide +kernel
theorem dX8_digest_102 : decode cX8_digest 102 = .ok (.iaload, 1) := by decide +kernel
theorem dX8_digest_103 : decode cX8_digest 103 = .ok (.i2l, 1) := by decide +kernel
theorem dX8_digest_104 : decode cX8_digest 104 = .ok (.invokevirtual 431, 3) := by decide +kernel
theorem dX8_digest_107 : decode cX8_digest 107 = .ok (.iconst 0, 1) := by decide +kernel
theorem dX8_digest_108 : decode cX8_digest 108 = .ok (.istore_n 2, 1) := by decide +kernel
theorem dX8_digest_109 : decode cX8_digest 109 = .ok (.iload_n 2, 1) := by decide +kernel
theorem dX8_digest_110 : decode cX8_digest 110 = .ok (.aload_n 0, 1) := by decide +kernel
theorem dX8_digest_111 : decode cX8_digest 111 = .ok (.getfield 22, 3) := by decide +kernel
theorem dX8_digest_114 : decode cX8_digest 114 = .ok (.iload_n 1, 1) := by decide +kernel
theorem dX8_digest_115 : decode cX8_digest 115 = .ok (.iaload, 1) := by decide +kernel
theorem dX8_digest_116 : decode cX8_digest 116 = .ok (.if_icmp .ge 20, 3) := by decide +kernel
theorem dX8_digest_119 : decode cX8_digest 119 = .ok (.aload_n 0, 1) := by decide +kernel
theorem dX8_digest_120 : decode cX8_digest 120 = .ok (.aload_n 0, 1) := by decide +kernel
theorem dX8_digest_121 : decode cX8_digest 121 = .ok (.iload_n 1, 1) := by decide +kernel
theorem dX8_digest_122 : decode cX8_digest 122 = .ok (.iload_n 2, 1) := by decide +kernel
theorem dX8_digest_123 : decode cX8_digest 123 = .ok (.invokevirtual 139, 3) := by decide +kernel
theorem dX8_digest_126 : decode cX8_digest 126 = .ok (.i2l, 1) := by decide +kernel
theorem dX8_digest_127 : decode cX8_digest 127 = .ok (.invokevirtual 431, 3) := by decide +kernel
theorem dX8_digest_130 : decode cX8_digest 130 = .ok (.iinc 2 1, 3) := by decide +kernel
theorem dX8_digest_133 : decode cX8_digest 133 = .ok (.goto (-24), 3) := by decide +kernel
theorem dX8_digest_136 : decode cX8_digest 136 = .ok (.iinc 1 1, 3) := by decide +kernel
theorem dX8_digest_139 : decode cX8_digest 139 = .ok (.goto (-48), 3) := by decide +kernel
theorem dX8_digest_142 : decode cX8_digest 142 = .ok (.aload_n 0, 1) := by decide +kernel
theorem dX8_digest_143 : decode cX8_digest 143 = .ok (.getfield 428, 3) := by decide +kernel
theorem dX8_digest_146 : decode cX8_digest 146 = .ok (.lreturn, 1) := by decide +kernel
