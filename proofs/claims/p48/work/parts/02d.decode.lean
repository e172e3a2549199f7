theorem dL_cell_0 : decode cL_cell 0 = .ok (.iload_n 1, 1) := by decide +kernel
theorem dL_cell_1 : decode cL_cell 1 = .ok (.aload_n 0, 1) := by decide +kernel
theorem dL_cell_2 : decode cL_cell 2 = .ok (.arraylength, 1) := by decide +kernel
theorem dL_cell_3 : decode cL_cell 3 = .ok (.if_icmp .ge 12, 3) := by decide +kernel
theorem dL_cell_6 : decode cL_cell 6 = .ok (.aload_n 0, 1) := by decide +kernel
theorem dL_cell_7 : decode cL_cell 7 = .ok (.iload_n 1, 1) := by decide +kernel
theorem dL_cell_8 : decode cL_cell 8 = .ok (.iaload, 1) := by decide +kernel
theorem dL_cell_9 : decode cL_cell 9 = .ok (.ldc 7, 2) := by decide +kernel
theorem dL_cell_11 : decode cL_cell 11 = .ok (.iand, 1) := by decide +kernel
theorem dL_cell_12 : decode cL_cell 12 = .ok (.goto 14, 3) := by decide +kernel
theorem dL_cell_15 : decode cL_cell 15 = .ok (.bipush 61, 2) := by decide +kernel
theorem dL_cell_17 : decode cL_cell 17 = .ok (.iload_n 1, 1) := by decide +kernel
theorem dL_cell_18 : decode cL_cell 18 = .ok (.imul, 1) := by decide +kernel
theorem dL_cell_19 : decode cL_cell 19 = .ok (.bipush 7, 2) := by decide +kernel
theorem dL_cell_21 : decode cL_cell 21 = .ok (.iadd, 1) := by decide +kernel
theorem dL_cell_22 : decode cL_cell 22 = .ok (.iload_n 1, 1) := by decide +kernel
theorem dL_cell_23 : decode cL_cell 23 = .ok (.iconst 3, 1) := by decide +kernel
theorem dL_cell_24 : decode cL_cell 24 = .ok (.iadd, 1) := by decide +kernel
theorem dL_cell_25 : decode cL_cell 25 = .ok (.imul, 1) := by decide +kernel
theorem dL_cell_26 : decode cL_cell 26 = .ok (.ireturn, 1) := by decide +kernel
theorem dL_put_0 : decode cL_put 0 = .ok (.iload_n 2, 1) := by decide +kernel
theorem dL_put_1 : decode cL_put 1 = .ok (.ifCond .lt 22, 3) := by decide +kernel
theorem dL_put_4 : decode cL_put 4 = .ok (.aload_n 0, 1) := by decide +kernel
theorem dL_put_5 : decode cL_put 5 = .ok (.iload_n 1, 1) := by decide +kernel
theorem dL_put_6 : decode cL_put 6 = .ok (.iload_n 2, 1) := by decide +kernel
theorem dL_put_7 : decode cL_put 7 = .ok (.iload_n 3, 1) := by decide +kernel
theorem dL_put_8 : decode cL_put 8 = .ok (.invokevirtual 8, 3) := by decide +kernel
theorem dL_put_11 : decode cL_put 11 = .ok (.sipush 1032, 3) := by decide +kernel
theorem dL_put_14 : decode cL_put 14 = .ok (.if_icmp .ne 9, 3) := by decide +kernel
theorem dL_put_17 : decode cL_put 17 = .ok (.iload_n 2, 1) := by decide +kernel
theorem dL_put_18 : decode cL_put 18 = .ok (.iconst 1, 1) := by decide +kernel
theorem dL_put_19 : decode cL_put 19 = .ok (.iadd, 1) := by decide +kernel
theorem dL_put_20 : decode cL_put 20 = .ok (.goto 6, 3) := by decide +kernel
theorem dL_put_23 : decode cL_put 23 = .ok (.sipush (-1000), 3) := by decide +kernel
theorem dL_put_26 : decode cL_put 26 = .ok (.ireturn, 1) := by decide +kernel
theorem dL_number_0 : decode cL_number 0 = .ok (.iload_n 3, 1) := by decide +kernel
theorem dL_number_1 : decode cL_number 1 = .ok (.bipush 10, 2) := by decide +kernel
theorem dL_number_3 : decode cL_number 3 = .ok (.if_icmp .ge 16, 3) := by decide +kernel
theorem dL_number_6 : decode cL_number 6 = .ok (.aload_n 0, 1) := by decide +kernel
theorem dL_number_7 : decode cL_number 7 = .ok (.iload_n 1, 1) := by decide +kernel
theorem dL_number_8 : decode cL_number 8 = .ok (.iload_n 2, 1) := by decide +kernel
theorem dL_number_9 : decode cL_number 9 = .ok (.bipush 48, 2) := by decide +kernel
theorem dL_number_11 : decode cL_number 11 = .ok (.iload_n 3, 1) := by decide +kernel
theorem dL_number_12 : decode cL_number 12 = .ok (.iadd, 1) := by decide +kernel
theorem dL_number_13 : decode cL_number 13 = .ok (.invokestatic 14, 3) := by decide +kernel
theorem dL_number_16 : decode cL_number 16 = .ok (.goto 28, 3) := by decide +kernel
theorem dL_number_19 : decode cL_number 19 = .ok (.aload_n 0, 1) := by decide +kernel
theorem dL_number_20 : decode cL_number 20 = .ok (.iload_n 1, 1) := by decide +kernel
theorem dL_number_21 : decode cL_number 21 = .ok (.aload_n 0, 1) := by decide +kernel
theorem dL_number_22 : decode cL_number 22 = .ok (.iload_n 1, 1) := by decide +kernel
theorem dL_number_23 : decode cL_number 23 = .ok (.iload_n 2, 1) := by decide +kernel
theorem dL_number_24 : decode cL_number 24 = .ok (.bipush 48, 2) := by decide +kernel
theorem dL_number_26 : decode cL_number 26 = .ok (.iload_n 3, 1) := by decide +kernel
theorem dL_number_27 : decode cL_number 27 = .ok (.bipush 10, 2) := by decide +kernel
theorem dL_number_29 : decode cL_number 29 = .ok (.idiv, 1) := by decide +kernel
theorem dL_number_30 : decode cL_number 30 = .ok (.iadd, 1) := by decide +kernel
theorem dL_number_31 : decode cL_number 31 = .ok (.invokestatic 14, 3) := by decide +kernel
theorem dL_number_34 : decode cL_number 34 = .ok (.bipush 48, 2) := by decide +kernel
theorem dL_number_36 : decode cL_number 36 = .ok (.iload_n 3, 1) := by decide +kernel
theorem dL_number_37 : decode cL_number 37 = .ok (.bipush 10, 2) := by decide +kernel
theorem dL_number_39 : decode cL_number 39 = .ok (.irem, 1) := by decide +kernel
theorem dL_number_40 : decode cL_number 40 = .ok (.iadd, 1) := by decide +kernel
theorem dL_number_41 : decode cL_number 41 = .ok (.invokestatic 14, 3) := by decide +kernel
theorem dL_number_44 : decode cL_number 44 = .ok (.ireturn, 1) := by decide +kernel
theorem dL_numbers_0 : decode cL_numbers 0 = .ok (.aload 6, 2) := by decide +kernel
theorem dL_numbers_2 : decode cL_numbers 2 = .ok (.iconst 0, 1) := by decide +kernel
theorem dL_numbers_3 : decode cL_numbers 3 = .ok (.iload_n 2, 1) := by decide +kernel
theorem dL_numbers_4 : decode cL_numbers 4 = .ok (.iastore, 1) := by decide +kernel
theorem dL_numbers_5 : decode cL_numbers 5 = .ok (.aload 6, 2) := by decide +kernel
theorem dL_numbers_7 : decode cL_numbers 7 = .ok (.iconst 1, 1) := by decide +kernel
theorem dL_numbers_8 : decode cL_numbers 8 = .ok (.iload_n 3, 1) := by decide +kernel
theorem dL_numbers_9 : decode cL_numbers 9 = .ok (.iastore, 1) := by decide +kernel
theorem dL_numbers_10 : decode cL_numbers 10 = .ok (.aload 6, 2) := by decide +kernel
theorem dL_numbers_12 : decode cL_numbers 12 = .ok (.iconst 2, 1) := by decide +kernel
theorem dL_numbers_13 : decode cL_numbers 13 = .ok (.iload 4, 2) := by decide +kernel
theorem dL_numbers_15 : decode cL_numbers 15 = .ok (.iastore, 1) := by decide +kernel
theorem dL_numbers_16 : decode cL_numbers 16 = .ok (.aload 6, 2) := by decide +kernel
theorem dL_numbers_18 : decode cL_numbers 18 = .ok (.iconst 3, 1) := by decide +kernel
theorem dL_numbers_19 : decode cL_numbers 19 = .ok (.iload 5, 2) := by decide +kernel
theorem dL_numbers_21 : decode cL_numbers 21 = .ok (.iastore, 1) := by decide +kernel
theorem dL_numbers_22 : decode cL_numbers 22 = .ok (.aload 6, 2) := by decide +kernel
theorem dL_numbers_24 : decode cL_numbers 24 = .ok (.iconst 4, 1) := by decide +kernel
theorem dL_numbers_25 : decode cL_numbers 25 = .ok (.aload_n 0, 1) := by decide +kernel
theorem dL_numbers_26 : decode cL_numbers 26 = .ok (.iload_n 1, 1) := by decide +kernel
theorem dL_numbers_27 : decode cL_numbers 27 = .ok (.invokestatic 19, 3) := by decide +kernel
theorem dL_numbers_30 : decode cL_numbers 30 = .ok (.iconst 1, 1) := by decide +kernel
theorem dL_numbers_31 : decode cL_numbers 31 = .ok (.iload_n 3, 1) := by decide +kernel
theorem dL_numbers_32 : decode cL_numbers 32 = .ok (.ishl, 1) := by decide +kernel
theorem dL_numbers_33 : decode cL_numbers 33 = .ok (.iconst 1, 1) := by decide +kernel
theorem dL_numbers_34 : decode cL_numbers 34 = .ok (.isub, 1) := by decide +kernel
theorem dL_numbers_35 : decode cL_numbers 35 = .ok (.iand, 1) := by decide +kernel
theorem dL_numbers_36 : decode cL_numbers 36 = .ok (.iastore, 1) := by decide +kernel
theorem dL_numbers_37 : decode cL_numbers 37 = .ok (.iconst 0, 1) := by decide +kernel
theorem dL_numbers_38 : decode cL_numbers 38 = .ok (.istore 7, 2) := by decide +kernel
theorem dL_numbers_40 : decode cL_numbers 40 = .ok (.iload 7, 2) := by decide +kernel
theorem dL_numbers_42 : decode cL_numbers 42 = .ok (.iload_n 3, 1) := by decide +kernel
theorem dL_numbers_43 : decode cL_numbers 43 = .ok (.if_icmp .ge 98, 3) := by decide +kernel
theorem dL_numbers_46 : decode cL_numbers 46 = .ok (.aload_n 0, 1) := by decide +kernel
theorem dL_numbers_47 : decode cL_numbers 47 = .ok (.iload_n 1, 1) := by decide +kernel
theorem dL_numbers_48 : decode cL_numbers 48 = .ok (.iconst 1, 1) := by decide +kernel
theorem dL_numbers_49 : decode cL_numbers 49 = .ok (.iadd, 1) := by decide +kernel
theorem dL_numbers_50 : decode cL_numbers 50 = .ok (.iconst 2, 1) := by decide +kernel
theorem dL_numbers_51 : decode cL_numbers 51 = .ok (.iload 7, 2) := by decide +kernel
theorem dL_numbers_53 : decode cL_numbers 53 = .ok (.imul, 1) := by decide +kernel
theorem dL_numbers_54 : decode cL_numbers 54 = .ok (.iadd, 1) := by decide +kernel
theorem dL_numbers_55 : decode cL_numbers 55 = .ok (.invokestatic 19, 3) := by decide +kernel
theorem dL_numbers_58 : decode cL_numbers 58 = .ok (.iload_n 2, 1) := by decide +kernel
theorem dL_numbers_59 : decode cL_numbers 59 = .ok (.irem, 1) := by decide +kernel
theorem dL_numbers_60 : decode cL_numbers 60 = .ok (.istore 8, 2) := by decide +kernel
theorem dL_numbers_62 : decode cL_numbers 62 = .ok (.iload 8, 2) := by decide +kernel
theorem dL_numbers_64 : decode cL_numbers 64 = .ok (.iconst 1, 1) := by decide +kernel
theorem dL_numbers_65 : decode cL_numbers 65 = .ok (.iadd, 1) := by decide +kernel
theorem dL_numbers_66 : decode cL_numbers 66 = .ok (.aload_n 0, 1) := by decide +kernel
theorem dL_numbers_67 : decode cL_numbers 67 = .ok (.iload_n 1, 1) := by decide +kernel
theorem dL_numbers_68 : decode cL_numbers 68 = .ok (.iconst 2, 1) := by decide +kernel
theorem dL_numbers_69 : decode cL_numbers 69 = .ok (.iadd, 1) := by decide +kernel
theorem dL_numbers_70 : decode cL_numbers 70 = .ok (.iconst 2, 1) := by decide +kernel
theorem dL_numbers_71 : decode cL_numbers 71 = .ok (.iload 7, 2) := by decide +kernel
theorem dL_numbers_73 : decode cL_numbers 73 = .ok (.imul, 1) := by decide +kernel
theorem dL_numbers_74 : decode cL_numbers 74 = .ok (.iadd, 1) := by decide +kernel
theorem dL_numbers_75 : decode cL_numbers 75 = .ok (.invokestatic 19, 3) := by decide +kernel
theorem dL_numbers_78 : decode cL_numbers 78 = .ok (.iload_n 2, 1) := by decide +kernel
theorem dL_numbers_79 : decode cL_numbers 79 = .ok (.iconst 1, 1) := by decide +kernel
theorem dL_numbers_80 : decode cL_numbers 80 = .ok (.isub, 1) := by decide +kernel
theorem dL_numbers_81 : decode cL_numbers 81 = .ok (.irem, 1) := by decide +kernel
theorem dL_numbers_82 : decode cL_numbers 82 = .ok (.iadd, 1) := by decide +kernel
theorem dL_numbers_83 : decode cL_numbers 83 = .ok (.iload_n 2, 1) := by decide +kernel
theorem dL_numbers_84 : decode cL_numbers 84 = .ok (.irem, 1) := by decide +kernel
theorem dL_numbers_85 : decode cL_numbers 85 = .ok (.istore 9, 2) := by decide +kernel
theorem dL_numbers_87 : decode cL_numbers 87 = .ok (.aload 6, 2) := by decide +kernel
theorem dL_numbers_89 : decode cL_numbers 89 = .ok (.bipush 8, 2) := by decide +kernel
theorem dL_numbers_91 : decode cL_numbers 91 = .ok (.iconst 2, 1) := by decide +kernel
theorem dL_numbers_92 : decode cL_numbers 92 = .ok (.iload 7, 2) := by decide +kernel
theorem dL_numbers_94 : decode cL_numbers 94 = .ok (.imul, 1) := by decide +kernel
theorem dL_numbers_95 : decode cL_numbers 95 = .ok (.iadd, 1) := by decide +kernel
theorem dL_numbers_96 : decode cL_numbers 96 = .ok (.iload 8, 2) := by decide +kernel
theorem dL_numbers_98 : decode cL_numbers 98 = .ok (.iload 9, 2) := by decide +kernel
theorem dL_numbers_100 : decode cL_numbers 100 = .ok (.if_icmp .ge 8, 3) := by decide +kernel
theorem dL_numbers_103 : decode cL_numbers 103 = .ok (.iload 8, 2) := by decide +kernel
theorem dL_numbers_105 : decode cL_numbers 105 = .ok (.goto 5, 3) := by decide +kernel
theorem dL_numbers_108 : decode cL_numbers 108 = .ok (.iload 9, 2) := by decide +kernel
theorem dL_numbers_110 : decode cL_numbers 110 = .ok (.iastore, 1) := by decide +kernel
theorem dL_numbers_111 : decode cL_numbers 111 = .ok (.aload 6, 2) := by decide +kernel
theorem dL_numbers_113 : decode cL_numbers 113 = .ok (.bipush 9, 2) := by decide +kernel
theorem dL_numbers_115 : decode cL_numbers 115 = .ok (.iconst 2, 1) := by decide +kernel
theorem dL_numbers_116 : decode cL_numbers 116 = .ok (.iload 7, 2) := by decide +kernel
theorem dL_numbers_118 : decode cL_numbers 118 = .ok (.imul, 1) := by decide +kernel
theorem dL_numbers_119 : decode cL_numbers 119 = .ok (.iadd, 1) := by decide +kernel
theorem dL_numbers_120 : decode cL_numbers 120 = .ok (.iload 8, 2) := by decide +kernel
theorem dL_numbers_122 : decode cL_numbers 122 = .ok (.iload 9, 2) := by decide +kernel
theorem dL_numbers_124 : decode cL_numbers 124 = .ok (.if_icmp .ge 8, 3) := by decide +kernel
theorem dL_numbers_127 : decode cL_numbers 127 = .ok (.iload 9, 2) := by decide +kernel
theorem dL_numbers_129 : decode cL_numbers 129 = .ok (.goto 5, 3) := by decide +kernel
theorem dL_numbers_132 : decode cL_numbers 132 = .ok (.iload 8, 2) := by decide +kernel
theorem dL_numbers_134 : decode cL_numbers 134 = .ok (.iastore, 1) := by decide +kernel
theorem dL_numbers_135 : decode cL_numbers 135 = .ok (.iinc 7 1, 3) := by decide +kernel
theorem dL_numbers_138 : decode cL_numbers 138 = .ok (.goto (-98), 3) := by decide +kernel
theorem dL_numbers_141 : decode cL_numbers 141 = .ok (.iconst 0, 1) := by decide +kernel
theorem dL_numbers_142 : decode cL_numbers 142 = .ok (.istore 7, 2) := by decide +kernel
theorem dL_numbers_144 : decode cL_numbers 144 = .ok (.iload 7, 2) := by decide +kernel
theorem dL_numbers_146 : decode cL_numbers 146 = .ok (.iload 4, 2) := by decide +kernel
theorem dL_numbers_148 : decode cL_numbers 148 = .ok (.if_icmp .ge 74, 3) := by decide +kernel
theorem dL_numbers_151 : decode cL_numbers 151 = .ok (.aload 6, 2) := by decide +kernel
theorem dL_numbers_153 : decode cL_numbers 153 = .ok (.bipush 30, 2) := by decide +kernel
theorem dL_numbers_155 : decode cL_numbers 155 = .ok (.iload 7, 2) := by decide +kernel
theorem dL_numbers_157 : decode cL_numbers 157 = .ok (.iadd, 1) := by decide +kernel
theorem dL_numbers_158 : decode cL_numbers 158 = .ok (.iconst 1, 1) := by decide +kernel
theorem dL_numbers_159 : decode cL_numbers 159 = .ok (.aload_n 0, 1) := by decide +kernel
theorem dL_numbers_160 : decode cL_numbers 160 = .ok (.iload_n 1, 1) := by decide +kernel
theorem dL_numbers_161 : decode cL_numbers 161 = .ok (.bipush 20, 2) := by decide +kernel
theorem dL_numbers_163 : decode cL_numbers 163 = .ok (.iadd, 1) := by decide +kernel
theorem dL_numbers_164 : decode cL_numbers 164 = .ok (.iload 7, 2) := by decide +kernel
theorem dL_numbers_166 : decode cL_numbers 166 = .ok (.iadd, 1) := by decide +kernel
theorem dL_numbers_167 : decode cL_numbers 167 = .ok (.invokestatic 19, 3) := by decide +kernel
theorem dL_numbers_170 : decode cL_numbers 170 = .ok (.iconst 2, 1) := by decide +kernel
theorem dL_numbers_171 : decode cL_numbers 171 = .ok (.irem, 1) := by decide +kernel
theorem dL_numbers_172 : decode cL_numbers 172 = .ok (.iadd, 1) := by decide +kernel
theorem dL_numbers_173 : decode cL_numbers 173 = .ok (.iastore, 1) := by decide +kernel
theorem dL_numbers_174 : decode cL_numbers 174 = .ok (.aload_n 0, 1) := by decide +kernel
theorem dL_numbers_175 : decode cL_numbers 175 = .ok (.iload_n 1, 1) := by decide +kernel
theorem dL_numbers_176 : decode cL_numbers 176 = .ok (.bipush 24, 2) := by decide +kernel
theorem dL_numbers_178 : decode cL_numbers 178 = .ok (.iadd, 1) := by decide +kernel
theorem dL_numbers_179 : decode cL_numbers 179 = .ok (.iload 7, 2) := by decide +kernel
theorem dL_numbers_181 : decode cL_numbers 181 = .ok (.iadd, 1) := by decide +kernel
theorem dL_numbers_182 : decode cL_numbers 182 = .ok (.invokestatic 19, 3) := by decide +kernel
theorem dL_numbers_185 : decode cL_numbers 185 = .ok (.iconst 1, 1) := by decide +kernel
theorem dL_numbers_186 : decode cL_numbers 186 = .ok (.iload_n 2, 1) := by decide +kernel
theorem dL_numbers_187 : decode cL_numbers 187 = .ok (.ishl, 1) := by decide +kernel
theorem dL_numbers_188 : decode cL_numbers 188 = .ok (.iconst 1, 1) := by decide +kernel
theorem dL_numbers_189 : decode cL_numbers 189 = .ok (.isub, 1) := by decide +kernel
theorem dL_numbers_190 : decode cL_numbers 190 = .ok (.iand, 1) := by decide +kernel
theorem dL_numbers_191 : decode cL_numbers 191 = .ok (.istore 8, 2) := by decide +kernel
theorem dL_numbers_193 : decode cL_numbers 193 = .ok (.aload 6, 2) := by decide +kernel
theorem dL_numbers_195 : decode cL_numbers 195 = .ok (.bipush 33, 2) := by decide +kernel
theorem dL_numbers_197 : decode cL_numbers 197 = .ok (.iload 7, 2) := by decide +kernel
theorem dL_numbers_199 : decode cL_numbers 199 = .ok (.iadd, 1) := by decide +kernel
theorem dL_numbers_200 : decode cL_numbers 200 = .ok (.iload 8, 2) := by decide +kernel
theorem dL_numbers_202 : decode cL_numbers 202 = .ok (.ifCond .ne 11, 3) := by decide +kernel
theorem dL_numbers_205 : decode cL_numbers 205 = .ok (.iconst 1, 1) := by decide +kernel
theorem dL_numbers_206 : decode cL_numbers 206 = .ok (.iload_n 2, 1) := by decide +kernel
theorem dL_numbers_207 : decode cL_numbers 207 = .ok (.ishl, 1) := by decide +kernel
theorem dL_numbers_208 : decode cL_numbers 208 = .ok (.iconst 1, 1) := by decide +kernel
theorem dL_numbers_209 : decode cL_numbers 209 = .ok (.isub, 1) := by decide +kernel
theorem dL_numbers_210 : decode cL_numbers 210 = .ok (.goto 5, 3) := by decide +kernel
theorem dL_numbers_213 : decode cL_numbers 213 = .ok (.iload 8, 2) := by decide +kernel
theorem dL_numbers_215 : decode cL_numbers 215 = .ok (.iastore, 1) := by decide +kernel
theorem dL_numbers_216 : decode cL_numbers 216 = .ok (.iinc 7 1, 3) := by decide +kernel
theorem dL_numbers_219 : decode cL_numbers 219 = .ok (.goto (-75), 3) := by decide +kernel
theorem dL_numbers_222 : decode cL_numbers 222 = .ok (.return_, 1) := by decide +kernel
theorem dL_house_0 : decode cL_house 0 = .ok (.aload_n 0, 1) := by decide +kernel
theorem dL_house_1 : decode cL_house 1 = .ok (.iconst 3, 1) := by decide +kernel
theorem dL_house_2 : decode cL_house 2 = .ok (.bipush 80, 2) := by decide +kernel
theorem dL_house_4 : decode cL_house 4 = .ok (.invokevirtual 23, 3) := by decide +kernel
theorem dL_house_7 : decode cL_house 7 = .ok (.bipush 80, 2) := by decide +kernel
theorem dL_house_9 : decode cL_house 9 = .ok (.if_icmp .eq 5, 3) := by decide +kernel
theorem dL_house_12 : decode cL_house 12 = .ok (.iconst 0, 1) := by decide +kernel
theorem dL_house_13 : decode cL_house 13 = .ok (.ireturn, 1) := by decide +kernel
theorem dL_house_14 : decode cL_house 14 = .ok (.aload_n 0, 1) := by decide +kernel
theorem dL_house_15 : decode cL_house 15 = .ok (.iconst 3, 1) := by decide +kernel
theorem dL_house_16 : decode cL_house 16 = .ok (.aload_n 0, 1) := by decide +kernel
theorem dL_house_17 : decode cL_house 17 = .ok (.iconst 3, 1) := by decide +kernel
theorem dL_house_18 : decode cL_house 18 = .ok (.iconst 0, 1) := by decide +kernel
theorem dL_house_19 : decode cL_house 19 = .ok (.bipush 114, 2) := by decide +kernel
theorem dL_house_21 : decode cL_house 21 = .ok (.invokestatic 14, 3) := by decide +kernel
theorem dL_house_24 : decode cL_house 24 = .ok (.bipush 48, 2) := by decide +kernel
theorem dL_house_26 : decode cL_house 26 = .ok (.aload_n 1, 1) := by decide +kernel
theorem dL_house_27 : decode cL_house 27 = .ok (.iconst 0, 1) := by decide +kernel
theorem dL_house_28 : decode cL_house 28 = .ok (.iaload, 1) := by decide +kernel
theorem dL_house_29 : decode cL_house 29 = .ok (.iadd, 1) := by decide +kernel
theorem dL_house_30 : decode cL_house 30 = .ok (.invokestatic 14, 3) := by decide +kernel
theorem dL_house_33 : decode cL_house 33 = .ok (.istore_n 2, 1) := by decide +kernel
theorem dL_house_34 : decode cL_house 34 = .ok (.iconst 0, 1) := by decide +kernel
theorem dL_house_35 : decode cL_house 35 = .ok (.istore_n 3, 1) := by decide +kernel
theorem dL_house_36 : decode cL_house 36 = .ok (.iload_n 3, 1) := by decide +kernel
theorem dL_house_37 : decode cL_house 37 = .ok (.aload_n 1, 1) := by decide +kernel
theorem dL_house_38 : decode cL_house 38 = .ok (.iconst 1, 1) := by decide +kernel
theorem dL_house_39 : decode cL_house 39 = .ok (.iaload, 1) := by decide +kernel
theorem dL_house_40 : decode cL_house 40 = .ok (.if_icmp .ge 75, 3) := by decide +kernel
theorem dL_house_43 : decode cL_house 43 = .ok (.aload_n 0, 1) := by decide +kernel
theorem dL_house_44 : decode cL_house 44 = .ok (.iconst 3, 1) := by decide +kernel
theorem dL_house_45 : decode cL_house 45 = .ok (.iload_n 2, 1) := by decide +kernel
theorem dL_house_46 : decode cL_house 46 = .ok (.aload_n 1, 1) := by decide +kernel
theorem dL_house_47 : decode cL_house 47 = .ok (.iconst 4, 1) := by decide +kernel
theorem dL_house_48 : decode cL_house 48 = .ok (.iaload, 1) := by decide +kernel
theorem dL_house_49 : decode cL_house 49 = .ok (.iload_n 3, 1) := by decide +kernel
theorem dL_house_50 : decode cL_house 50 = .ok (.ishr, 1) := by decide +kernel
theorem dL_house_51 : decode cL_house 51 = .ok (.iconst 1, 1) := by decide +kernel
theorem dL_house_52 : decode cL_house 52 = .ok (.iand, 1) := by decide +kernel
theorem dL_house_53 : decode cL_house 53 = .ok (.iconst 1, 1) := by decide +kernel
theorem dL_house_54 : decode cL_house 54 = .ok (.if_icmp .ne 8, 3) := by decide +kernel
theorem dL_house_57 : decode cL_house 57 = .ok (.bipush 68, 2) := by decide +kernel
theorem dL_house_59 : decode cL_house 59 = .ok (.goto 5, 3) := by decide +kernel
theorem dL_house_62 : decode cL_house 62 = .ok (.bipush 100, 2) := by decide +kernel
theorem dL_house_64 : decode cL_house 64 = .ok (.invokestatic 14, 3) := by decide +kernel
theorem dL_house_67 : decode cL_house 67 = .ok (.istore_n 2, 1) := by decide +kernel
theorem dL_house_68 : decode cL_house 68 = .ok (.aload_n 0, 1) := by decide +kernel
theorem dL_house_69 : decode cL_house 69 = .ok (.iconst 3, 1) := by decide +kernel
theorem dL_house_70 : decode cL_house 70 = .ok (.aload_n 0, 1) := by decide +kernel
theorem dL_house_71 : decode cL_house 71 = .ok (.iconst 3, 1) := by decide +kernel
theorem dL_house_72 : decode cL_house 72 = .ok (.aload_n 0, 1) := by decide +kernel
theorem dL_house_73 : decode cL_house 73 = .ok (.iconst 3, 1) := by decide +kernel
theorem dL_house_74 : decode cL_house 74 = .ok (.iload_n 2, 1) := by decide +kernel
theorem dL_house_75 : decode cL_house 75 = .ok (.bipush 48, 2) := by decide +kernel
theorem dL_house_77 : decode cL_house 77 = .ok (.aload_n 1, 1) := by decide +kernel
theorem dL_house_78 : decode cL_house 78 = .ok (.bipush 8, 2) := by decide +kernel
theorem dL_house_80 : decode cL_house 80 = .ok (.iconst 2, 1) := by decide +kernel
theorem dL_house_81 : decode cL_house 81 = .ok (.iload_n 3, 1) := by decide +kernel
theorem dL_house_82 : decode cL_house 82 = .ok (.imul, 1) := by decide +kernel
theorem dL_house_83 : decode cL_house 83 = .ok (.iadd, 1) := by decide +kernel
theorem dL_house_84 : decode cL_house 84 = .ok (.iaload, 1) := by decide +kernel
theorem dL_house_85 : decode cL_house 85 = .ok (.iadd, 1) := by decide +kernel
theorem dL_house_86 : decode cL_house 86 = .ok (.invokestatic 14, 3) := by decide +kernel
theorem dL_house_89 : decode cL_house 89 = .ok (.bipush 45, 2) := by decide +kernel
theorem dL_house_91 : decode cL_house 91 = .ok (.invokestatic 14, 3) := by decide +kernel
theorem dL_house_94 : decode cL_house 94 = .ok (.bipush 48, 2) := by decide +kernel
theorem dL_house_96 : decode cL_house 96 = .ok (.aload_n 1, 1) := by decide +kernel
theorem dL_house_97 : decode cL_house 97 = .ok (.bipush 9, 2) := by decide +kernel
theorem dL_house_99 : decode cL_house 99 = .ok (.iconst 2, 1) := by decide +kernel
theorem dL_house_100 : decode cL_house 100 = .ok (.iload_n 3, 1) := by decide +kernel
theorem dL_house_101 : decode cL_house 101 = .ok (.imul, 1) := by decide +kernel
theorem dL_house_102 : decode cL_house 102 = .ok (.iadd, 1) := by decide +kernel
theorem dL_house_103 : decode cL_house 103 = .ok (.iaload, 1) := by decide +kernel
theorem dL_house_104 : decode cL_house 104 = .ok (.iadd, 1) := by decide +kernel
theorem dL_house_105 : decode cL_house 105 = .ok (.invokestatic 14, 3) := by decide +kernel
theorem dL_house_108 : decode cL_house 108 = .ok (.istore_n 2, 1) := by decide +kernel
theorem dL_house_109 : decode cL_house 109 = .ok (.iinc 3 1, 3) := by decide +kernel
theorem dL_house_112 : decode cL_house 112 = .ok (.goto (-76), 3) := by decide +kernel
theorem dL_house_115 : decode cL_house 115 = .ok (.aload_n 0, 1) := by decide +kernel
theorem dL_house_116 : decode cL_house 116 = .ok (.iconst 3, 1) := by decide +kernel
theorem dL_house_117 : decode cL_house 117 = .ok (.aload_n 0, 1) := by decide +kernel
theorem dL_house_118 : decode cL_house 118 = .ok (.iconst 3, 1) := by decide +kernel
theorem dL_house_119 : decode cL_house 119 = .ok (.iload_n 2, 1) := by decide +kernel
theorem dL_house_120 : decode cL_house 120 = .ok (.bipush 109, 2) := by decide +kernel
theorem dL_house_122 : decode cL_house 122 = .ok (.invokestatic 14, 3) := by decide +kernel
theorem dL_house_125 : decode cL_house 125 = .ok (.aload_n 1, 1) := by decide +kernel
theorem dL_house_126 : decode cL_house 126 = .ok (.iconst 3, 1) := by decide +kernel
theorem dL_house_127 : decode cL_house 127 = .ok (.iaload, 1) := by decide +kernel
theorem dL_house_128 : decode cL_house 128 = .ok (.invokestatic 27, 3) := by decide +kernel
theorem dL_house_131 : decode cL_house 131 = .ok (.istore_n 2, 1) := by decide +kernel
theorem dL_house_132 : decode cL_house 132 = .ok (.iconst 0, 1) := by decide +kernel
theorem dL_house_133 : decode cL_house 133 = .ok (.istore_n 3, 1) := by decide +kernel
theorem dL_house_134 : decode cL_house 134 = .ok (.iload_n 3, 1) := by decide +kernel
theorem dL_house_135 : decode cL_house 135 = .ok (.aload_n 1, 1) := by decide +kernel
theorem dL_house_136 : decode cL_house 136 = .ok (.iconst 2, 1) := by decide +kernel
theorem dL_house_137 : decode cL_house 137 = .ok (.iaload, 1) := by decide +kernel
theorem dL_house_138 : decode cL_house 138 = .ok (.if_icmp .ge 115, 3) := by decide +kernel
theorem dL_house_141 : decode cL_house 141 = .ok (.aload_n 0, 1) := by decide +kernel
theorem dL_house_142 : decode cL_house 142 = .ok (.iconst 3, 1) := by decide +kernel
theorem dL_house_143 : decode cL_house 143 = .ok (.aload_n 0, 1) := by decide +kernel
theorem dL_house_144 : decode cL_house 144 = .ok (.iconst 3, 1) := by decide +kernel
theorem dL_house_145 : decode cL_house 145 = .ok (.aload_n 0, 1) := by decide +kernel
theorem dL_house_146 : decode cL_house 146 = .ok (.iconst 3, 1) := by decide +kernel
theorem dL_house_147 : decode cL_house 147 = .ok (.iload_n 2, 1) := by decide +kernel
theorem dL_house_148 : decode cL_house 148 = .ok (.bipush 119, 2) := by decide +kernel
theorem dL_house_150 : decode cL_house 150 = .ok (.invokestatic 14, 3) := by decide +kernel
theorem dL_house_153 : decode cL_house 153 = .ok (.bipush 48, 2) := by decide +kernel
theorem dL_house_155 : decode cL_house 155 = .ok (.aload_n 1, 1) := by decide +kernel
theorem dL_house_156 : decode cL_house 156 = .ok (.bipush 30, 2) := by decide +kernel
theorem dL_house_158 : decode cL_house 158 = .ok (.iload_n 3, 1) := by decide +kernel
theorem dL_house_159 : decode cL_house 159 = .ok (.iadd, 1) := by decide +kernel
theorem dL_house_160 : decode cL_house 160 = .ok (.iaload, 1) := by decide +kernel
theorem dL_house_161 : decode cL_house 161 = .ok (.iadd, 1) := by decide +kernel
theorem dL_house_162 : decode cL_house 162 = .ok (.invokestatic 14, 3) := by decide +kernel
theorem dL_house_165 : decode cL_house 165 = .ok (.bipush 58, 2) := by decide +kernel
theorem dL_house_167 : decode cL_house 167 = .ok (.invokestatic 14, 3) := by decide +kernel
theorem dL_house_170 : decode cL_house 170 = .ok (.istore_n 2, 1) := by decide +kernel
theorem dL_house_171 : decode cL_house 171 = .ok (.aload_n 1, 1) := by decide +kernel
theorem dL_house_172 : decode cL_house 172 = .ok (.bipush 33, 2) := by decide +kernel
theorem dL_house_174 : decode cL_house 174 = .ok (.iload_n 3, 1) := by decide +kernel
theorem dL_house_175 : decode cL_house 175 = .ok (.iadd, 1) := by decide +kernel
theorem dL_house_176 : decode cL_house 176 = .ok (.iaload, 1) := by decide +kernel
theorem dL_house_177 : decode cL_house 177 = .ok (.iconst 1, 1) := by decide +kernel
theorem dL_house_178 : decode cL_house 178 = .ok (.aload_n 1, 1) := by decide +kernel
theorem dL_house_179 : decode cL_house 179 = .ok (.iconst 0, 1) := by decide +kernel
theorem dL_house_180 : decode cL_house 180 = .ok (.iaload, 1) := by decide +kernel
theorem dL_house_181 : decode cL_house 181 = .ok (.ishl, 1) := by decide +kernel
theorem dL_house_182 : decode cL_house 182 = .ok (.iconst 1, 1) := by decide +kernel
theorem dL_house_183 : decode cL_house 183 = .ok (.isub, 1) := by decide +kernel
theorem dL_house_184 : decode cL_house 184 = .ok (.if_icmp .ne 15, 3) := by decide +kernel
theorem dL_house_187 : decode cL_house 187 = .ok (.aload_n 0, 1) := by decide +kernel
theorem dL_house_188 : decode cL_house 188 = .ok (.iconst 3, 1) := by decide +kernel
theorem dL_house_189 : decode cL_house 189 = .ok (.iload_n 2, 1) := by decide +kernel
theorem dL_house_190 : decode cL_house 190 = .ok (.bipush 42, 2) := by decide +kernel
theorem dL_house_192 : decode cL_house 192 = .ok (.invokestatic 14, 3) := by decide +kernel
theorem dL_house_195 : decode cL_house 195 = .ok (.istore_n 2, 1) := by decide +kernel
theorem dL_house_196 : decode cL_house 196 = .ok (.goto 51, 3) := by decide +kernel
theorem dL_house_199 : decode cL_house 199 = .ok (.iconst 0, 1) := by decide +kernel
theorem dL_house_200 : decode cL_house 200 = .ok (.istore 4, 2) := by decide +kernel
theorem dL_house_202 : decode cL_house 202 = .ok (.iload 4, 2) := by decide +kernel
theorem dL_house_204 : decode cL_house 204 = .ok (.aload_n 1, 1) := by decide +kernel
theorem dL_house_205 : decode cL_house 205 = .ok (.iconst 0, 1) := by decide +kernel
theorem dL_house_206 : decode cL_house 206 = .ok (.iaload, 1) := by decide +kernel
theorem dL_house_207 : decode cL_house 207 = .ok (.if_icmp .ge 40, 3) := by decide +kernel
theorem dL_house_210 : decode cL_house 210 = .ok (.aload_n 1, 1) := by decide +kernel
theorem dL_house_211 : decode cL_house 211 = .ok (.bipush 33, 2) := by decide +kernel
theorem dL_house_213 : decode cL_house 213 = .ok (.iload_n 3, 1) := by decide +kernel
theorem dL_house_214 : decode cL_house 214 = .ok (.iadd, 1) := by decide +kernel
theorem dL_house_215 : decode cL_house 215 = .ok (.iaload, 1) := by decide +kernel
theorem dL_house_216 : decode cL_house 216 = .ok (.iload 4, 2) := by decide +kernel
theorem dL_house_218 : decode cL_house 218 = .ok (.ishr, 1) := by decide +kernel
theorem dL_house_219 : decode cL_house 219 = .ok (.iconst 1, 1) := by decide +kernel
theorem dL_house_220 : decode cL_house 220 = .ok (.iand, 1) := by decide +kernel
theorem dL_house_221 : decode cL_house 221 = .ok (.iconst 1, 1) := by decide +kernel
theorem dL_house_222 : decode cL_house 222 = .ok (.if_icmp .ne 17, 3) := by decide +kernel
theorem dL_house_225 : decode cL_house 225 = .ok (.aload_n 0, 1) := by decide +kernel
theorem dL_house_226 : decode cL_house 226 = .ok (.iconst 3, 1) := by decide +kernel
theorem dL_house_227 : decode cL_house 227 = .ok (.iload_n 2, 1) := by decide +kernel
theorem dL_house_228 : decode cL_house 228 = .ok (.bipush 48, 2) := by decide +kernel
theorem dL_house_230 : decode cL_house 230 = .ok (.iload 4, 2) := by decide +kernel
theorem dL_house_232 : decode cL_house 232 = .ok (.iadd, 1) := by decide +kernel
theorem dL_house_233 : decode cL_house 233 = .ok (.invokestatic 14, 3) := by decide +kernel
theorem dL_house_236 : decode cL_house 236 = .ok (.goto 4, 3) := by decide +kernel
theorem dL_house_239 : decode cL_house 239 = .ok (.iload_n 2, 1) := by decide +kernel
theorem dL_house_240 : decode cL_house 240 = .ok (.istore_n 2, 1) := by decide +kernel
theorem dL_house_241 : decode cL_house 241 = .ok (.iinc 4 1, 3) := by decide +kernel
theorem dL_house_244 : decode cL_house 244 = .ok (.goto (-42), 3) := by decide +kernel
theorem dL_house_247 : decode cL_house 247 = .ok (.iinc 3 1, 3) := by decide +kernel
theorem dL_house_250 : decode cL_house 250 = .ok (.goto (-116), 3) := by decide +kernel
theorem dL_house_253 : decode cL_house 253 = .ok (.iload_n 2, 1) := by decide +kernel
theorem dL_house_254 : decode cL_house 254 = .ok (.ifCond .le 29, 3) := by decide +kernel
theorem dL_house_257 : decode cL_house 257 = .ok (.aload_n 0, 1) := by decide +kernel
theorem dL_house_258 : decode cL_house 258 = .ok (.iconst 3, 1) := by decide +kernel
theorem dL_house_259 : decode cL_house 259 = .ok (.iconst 0, 1) := by decide +kernel
theorem dL_house_260 : decode cL_house 260 = .ok (.invokevirtual 30, 3) := by decide +kernel
theorem dL_house_263 : decode cL_house 263 = .ok (.bipush (-9), 2) := by decide +kernel
theorem dL_house_265 : decode cL_house 265 = .ok (.if_icmp .ne 18, 3) := by decide +kernel
theorem dL_house_268 : decode cL_house 268 = .ok (.aload_n 0, 1) := by decide +kernel
theorem dL_house_269 : decode cL_house 269 = .ok (.iconst 3, 1) := by decide +kernel
theorem dL_house_270 : decode cL_house 270 = .ok (.invokevirtual 34, 3) := by decide +kernel
theorem dL_house_273 : decode cL_house 273 = .ok (.aload_n 1, 1) := by decide +kernel
theorem dL_house_274 : decode cL_house 274 = .ok (.iconst 1, 1) := by decide +kernel
theorem dL_house_275 : decode cL_house 275 = .ok (.iaload, 1) := by decide +kernel
theorem dL_house_276 : decode cL_house 276 = .ok (.if_icmp .ne 7, 3) := by decide +kernel
theorem dL_house_279 : decode cL_house 279 = .ok (.iconst 1, 1) := by decide +kernel
theorem dL_house_280 : decode cL_house 280 = .ok (.goto 4, 3) := by decide +kernel
theorem dL_house_283 : decode cL_house 283 = .ok (.iconst 0, 1) := by decide +kernel
theorem dL_house_284 : decode cL_house 284 = .ok (.ireturn, 1) := by decide +kernel
theorem dL_tells_0 : decode cL_tells 0 = .ok (.iconst 1, 1) := by decide +kernel
theorem dL_tells_1 : decode cL_tells 1 = .ok (.aload_n 0, 1) := by decide +kernel
theorem dL_tells_2 : decode cL_tells 2 = .ok (.iload_n 1, 1) := by decide +kernel
theorem dL_tells_3 : decode cL_tells 3 = .ok (.invokestatic 19, 3) := by decide +kernel
theorem dL_tells_6 : decode cL_tells 6 = .ok (.iconst 5, 1) := by decide +kernel
theorem dL_tells_7 : decode cL_tells 7 = .ok (.irem, 1) := by decide +kernel
theorem dL_tells_8 : decode cL_tells 8 = .ok (.iadd, 1) := by decide +kernel
theorem dL_tells_9 : decode cL_tells 9 = .ok (.istore 5, 2) := by decide +kernel
theorem dL_tells_11 : decode cL_tells 11 = .ok (.aload_n 2, 1) := by decide +kernel
theorem dL_tells_12 : decode cL_tells 12 = .ok (.iconst 3, 1) := by decide +kernel
theorem dL_tells_13 : decode cL_tells 13 = .ok (.iaload, 1) := by decide +kernel
theorem dL_tells_14 : decode cL_tells 14 = .ok (.istore 6, 2) := by decide +kernel
theorem dL_tells_16 : decode cL_tells 16 = .ok (.aload_n 0, 1) := by decide +kernel
theorem dL_tells_17 : decode cL_tells 17 = .ok (.iload_n 1, 1) := by decide +kernel
theorem dL_tells_18 : decode cL_tells 18 = .ok (.iconst 1, 1) := by decide +kernel
theorem dL_tells_19 : decode cL_tells 19 = .ok (.iadd, 1) := by decide +kernel
theorem dL_tells_20 : decode cL_tells 20 = .ok (.invokestatic 19, 3) := by decide +kernel
theorem dL_tells_23 : decode cL_tells 23 = .ok (.aload_n 2, 1) := by decide +kernel
theorem dL_tells_24 : decode cL_tells 24 = .ok (.iconst 1, 1) := by decide +kernel
theorem dL_tells_25 : decode cL_tells 25 = .ok (.iaload, 1) := by decide +kernel
theorem dL_tells_26 : decode cL_tells 26 = .ok (.iconst 1, 1) := by decide +kernel
theorem dL_tells_27 : decode cL_tells 27 = .ok (.iadd, 1) := by decide +kernel
theorem dL_tells_28 : decode cL_tells 28 = .ok (.irem, 1) := by decide +kernel
theorem dL_tells_29 : decode cL_tells 29 = .ok (.istore 7, 2) := by decide +kernel
theorem dL_tells_31 : decode cL_tells 31 = .ok (.iconst 1, 1) := by decide +kernel
theorem dL_tells_32 : decode cL_tells 32 = .ok (.istore 8, 2) := by decide +kernel
theorem dL_tells_34 : decode cL_tells 34 = .ok (.aload_n 3, 1) := by decide +kernel
theorem dL_tells_35 : decode cL_tells 35 = .ok (.iconst 4, 1) := by decide +kernel
theorem dL_tells_36 : decode cL_tells 36 = .ok (.iload 4, 2) := by decide +kernel
theorem dL_tells_38 : decode cL_tells 38 = .ok (.imul, 1) := by decide +kernel
theorem dL_tells_39 : decode cL_tells 39 = .ok (.iload 5, 2) := by decide +kernel
theorem dL_tells_41 : decode cL_tells 41 = .ok (.iastore, 1) := by decide +kernel
theorem dL_tells_42 : decode cL_tells 42 = .ok (.aload_n 3, 1) := by decide +kernel
theorem dL_tells_43 : decode cL_tells 43 = .ok (.iconst 4, 1) := by decide +kernel
theorem dL_tells_44 : decode cL_tells 44 = .ok (.iload 4, 2) := by decide +kernel
theorem dL_tells_46 : decode cL_tells 46 = .ok (.imul, 1) := by decide +kernel
theorem dL_tells_47 : decode cL_tells 47 = .ok (.iconst 1, 1) := by decide +kernel
theorem dL_tells_48 : decode cL_tells 48 = .ok (.iadd, 1) := by decide +kernel
theorem dL_tells_49 : decode cL_tells 49 = .ok (.iload 5, 2) := by decide +kernel
theorem dL_tells_51 : decode cL_tells 51 = .ok (.iconst 1, 1) := by decide +kernel
theorem dL_tells_52 : decode cL_tells 52 = .ok (.if_icmp .eq 9, 3) := by decide +kernel
theorem dL_tells_55 : decode cL_tells 55 = .ok (.iload 5, 2) := by decide +kernel
theorem dL_tells_57 : decode cL_tells 57 = .ok (.iconst 5, 1) := by decide +kernel
theorem dL_tells_58 : decode cL_tells 58 = .ok (.if_icmp .ne 8, 3) := by decide +kernel
theorem dL_tells_61 : decode cL_tells 61 = .ok (.iload 7, 2) := by decide +kernel
theorem dL_tells_63 : decode cL_tells 63 = .ok (.goto 14, 3) := by decide +kernel
theorem dL_tells_66 : decode cL_tells 66 = .ok (.aload_n 0, 1) := by decide +kernel
theorem dL_tells_67 : decode cL_tells 67 = .ok (.iload_n 1, 1) := by decide +kernel
theorem dL_tells_68 : decode cL_tells 68 = .ok (.iconst 1, 1) := by decide +kernel
theorem dL_tells_69 : decode cL_tells 69 = .ok (.iadd, 1) := by decide +kernel
theorem dL_tells_70 : decode cL_tells 70 = .ok (.invokestatic 19, 3) := by decide +kernel
theorem dL_tells_73 : decode cL_tells 73 = .ok (.aload_n 2, 1) := by decide +kernel
theorem dL_tells_74 : decode cL_tells 74 = .ok (.iconst 0, 1) := by decide +kernel
theorem dL_tells_75 : decode cL_tells 75 = .ok (.iaload, 1) := by decide +kernel
theorem dL_tells_76 : decode cL_tells 76 = .ok (.irem, 1) := by decide +kernel
theorem dL_tells_77 : decode cL_tells 77 = .ok (.iastore, 1) := by decide +kernel
theorem dL_tells_78 : decode cL_tells 78 = .ok (.aload_n 3, 1) := by decide +kernel
theorem dL_tells_79 : decode cL_tells 79 = .ok (.iconst 4, 1) := by decide +kernel
theorem dL_tells_80 : decode cL_tells 80 = .ok (.iload 4, 2) := by decide +kernel
theorem dL_tells_82 : decode cL_tells 82 = .ok (.imul, 1) := by decide +kernel
theorem dL_tells_83 : decode cL_tells 83 = .ok (.iconst 2, 1) := by decide +kernel
theorem dL_tells_84 : decode cL_tells 84 = .ok (.iadd, 1) := by decide +kernel
theorem dL_tells_85 : decode cL_tells 85 = .ok (.iconst 0, 1) := by decide +kernel
theorem dL_tells_86 : decode cL_tells 86 = .ok (.iastore, 1) := by decide +kernel
theorem dL_tells_87 : decode cL_tells 87 = .ok (.aload_n 3, 1) := by decide +kernel
theorem dL_tells_88 : decode cL_tells 88 = .ok (.iconst 4, 1) := by decide +kernel
theorem dL_tells_89 : decode cL_tells 89 = .ok (.iload 4, 2) := by decide +kernel
theorem dL_tells_91 : decode cL_tells 91 = .ok (.imul, 1) := by decide +kernel
theorem dL_tells_92 : decode cL_tells 92 = .ok (.iconst 3, 1) := by decide +kernel
theorem dL_tells_93 : decode cL_tells 93 = .ok (.iadd, 1) := by decide +kernel
theorem dL_tells_94 : decode cL_tells 94 = .ok (.aload_n 0, 1) := by decide +kernel
theorem dL_tells_95 : decode cL_tells 95 = .ok (.iload_n 1, 1) := by decide +kernel
theorem dL_tells_96 : decode cL_tells 96 = .ok (.iconst 2, 1) := by decide +kernel
theorem dL_tells_97 : decode cL_tells 97 = .ok (.iadd, 1) := by decide +kernel
theorem dL_tells_98 : decode cL_tells 98 = .ok (.invokestatic 19, 3) := by decide +kernel
theorem dL_tells_101 : decode cL_tells 101 = .ok (.iload 5, 2) := by decide +kernel
theorem dL_tells_103 : decode cL_tells 103 = .ok (.iconst 1, 1) := by decide +kernel
theorem dL_tells_104 : decode cL_tells 104 = .ok (.if_icmp .eq 9, 3) := by decide +kernel
theorem dL_tells_107 : decode cL_tells 107 = .ok (.iload 5, 2) := by decide +kernel
theorem dL_tells_109 : decode cL_tells 109 = .ok (.iconst 5, 1) := by decide +kernel
theorem dL_tells_110 : decode cL_tells 110 = .ok (.if_icmp .ne 8, 3) := by decide +kernel
theorem dL_tells_113 : decode cL_tells 113 = .ok (.iload 6, 2) := by decide +kernel
theorem dL_tells_115 : decode cL_tells 115 = .ok (.goto 7, 3) := by decide +kernel
theorem dL_tells_118 : decode cL_tells 118 = .ok (.iload 6, 2) := by decide +kernel
theorem dL_tells_120 : decode cL_tells 120 = .ok (.iconst 1, 1) := by decide +kernel
theorem dL_tells_121 : decode cL_tells 121 = .ok (.iadd, 1) := by decide +kernel
theorem dL_tells_122 : decode cL_tells 122 = .ok (.irem, 1) := by decide +kernel
theorem dL_tells_123 : decode cL_tells 123 = .ok (.iastore, 1) := by decide +kernel
theorem dL_tells_124 : decode cL_tells 124 = .ok (.iload 5, 2) := by decide +kernel
theorem dL_tells_126 : decode cL_tells 126 = .ok (.iconst 1, 1) := by decide +kernel
theorem dL_tells_127 : decode cL_tells 127 = .ok (.if_icmp .ne 33, 3) := by decide +kernel
theorem dL_tells_130 : decode cL_tells 130 = .ok (.iload 7, 2) := by decide +kernel
theorem dL_tells_132 : decode cL_tells 132 = .ok (.aload_n 2, 1) := by decide +kernel
theorem dL_tells_133 : decode cL_tells 133 = .ok (.iconst 1, 1) := by decide +kernel
theorem dL_tells_134 : decode cL_tells 134 = .ok (.iaload, 1) := by decide +kernel
theorem dL_tells_135 : decode cL_tells 135 = .ok (.if_icmp .ge 19, 3) := by decide +kernel
theorem dL_tells_138 : decode cL_tells 138 = .ok (.aload_n 2, 1) := by decide +kernel
theorem dL_tells_139 : decode cL_tells 139 = .ok (.iconst 4, 1) := by decide +kernel
theorem dL_tells_140 : decode cL_tells 140 = .ok (.iaload, 1) := by decide +kernel
theorem dL_tells_141 : decode cL_tells 141 = .ok (.iload 7, 2) := by decide +kernel
theorem dL_tells_143 : decode cL_tells 143 = .ok (.ishr, 1) := by decide +kernel
theorem dL_tells_144 : decode cL_tells 144 = .ok (.iconst 1, 1) := by decide +kernel
theorem dL_tells_145 : decode cL_tells 145 = .ok (.iand, 1) := by decide +kernel
theorem dL_tells_146 : decode cL_tells 146 = .ok (.iconst 1, 1) := by decide +kernel
theorem dL_tells_147 : decode cL_tells 147 = .ok (.if_icmp .ne 7, 3) := by decide +kernel
theorem dL_tells_150 : decode cL_tells 150 = .ok (.iconst 1, 1) := by decide +kernel
theorem dL_tells_151 : decode cL_tells 151 = .ok (.goto 4, 3) := by decide +kernel
theorem dL_tells_154 : decode cL_tells 154 = .ok (.iconst 0, 1) := by decide +kernel
theorem dL_tells_155 : decode cL_tells 155 = .ok (.istore 8, 2) := by decide +kernel
theorem dL_tells_157 : decode cL_tells 157 = .ok (.goto 111, 3) := by decide +kernel
theorem dL_tells_160 : decode cL_tells 160 = .ok (.iload 5, 2) := by decide +kernel
theorem dL_tells_162 : decode cL_tells 162 = .ok (.iconst 5, 1) := by decide +kernel
theorem dL_tells_163 : decode cL_tells 163 = .ok (.if_icmp .ne 57, 3) := by decide +kernel
theorem dL_tells_166 : decode cL_tells 166 = .ok (.iload 7, 2) := by decide +kernel
theorem dL_tells_168 : decode cL_tells 168 = .ok (.aload_n 2, 1) := by decide +kernel
theorem dL_tells_169 : decode cL_tells 169 = .ok (.iconst 1, 1) := by decide +kernel
theorem dL_tells_170 : decode cL_tells 170 = .ok (.iaload, 1) := by decide +kernel
theorem dL_tells_171 : decode cL_tells 171 = .ok (.if_icmp .ge 7, 3) := by decide +kernel
theorem dL_tells_174 : decode cL_tells 174 = .ok (.iconst 1, 1) := by decide +kernel
theorem dL_tells_175 : decode cL_tells 175 = .ok (.goto 4, 3) := by decide +kernel
theorem dL_tells_178 : decode cL_tells 178 = .ok (.iconst 0, 1) := by decide +kernel
theorem dL_tells_179 : decode cL_tells 179 = .ok (.istore 8, 2) := by decide +kernel
theorem dL_tells_181 : decode cL_tells 181 = .ok (.aload_n 3, 1) := by decide +kernel
theorem dL_tells_182 : decode cL_tells 182 = .ok (.iconst 4, 1) := by decide +kernel
theorem dL_tells_183 : decode cL_tells 183 = .ok (.iload 4, 2) := by decide +kernel
theorem dL_tells_185 : decode cL_tells 185 = .ok (.imul, 1) := by decide +kernel
theorem dL_tells_186 : decode cL_tells 186 = .ok (.iconst 2, 1) := by decide +kernel
theorem dL_tells_187 : decode cL_tells 187 = .ok (.iadd, 1) := by decide +kernel
theorem dL_tells_188 : decode cL_tells 188 = .ok (.aload_n 3, 1) := by decide +kernel
theorem dL_tells_189 : decode cL_tells 189 = .ok (.iconst 4, 1) := by decide +kernel
theorem dL_tells_190 : decode cL_tells 190 = .ok (.iload 4, 2) := by decide +kernel
theorem dL_tells_192 : decode cL_tells 192 = .ok (.imul, 1) := by decide +kernel
theorem dL_tells_193 : decode cL_tells 193 = .ok (.iconst 3, 1) := by decide +kernel
theorem dL_tells_194 : decode cL_tells 194 = .ok (.iadd, 1) := by decide +kernel
theorem dL_tells_195 : decode cL_tells 195 = .ok (.iaload, 1) := by decide +kernel
theorem dL_tells_196 : decode cL_tells 196 = .ok (.aload_n 0, 1) := by decide +kernel
theorem dL_tells_197 : decode cL_tells 197 = .ok (.iload_n 1, 1) := by decide +kernel
theorem dL_tells_198 : decode cL_tells 198 = .ok (.iconst 3, 1) := by decide +kernel
theorem dL_tells_199 : decode cL_tells 199 = .ok (.iadd, 1) := by decide +kernel
theorem dL_tells_200 : decode cL_tells 200 = .ok (.invokestatic 19, 3) := by decide +kernel
theorem dL_tells_203 : decode cL_tells 203 = .ok (.iload 6, 2) := by decide +kernel
theorem dL_tells_205 : decode cL_tells 205 = .ok (.aload_n 3, 1) := by decide +kernel
theorem dL_tells_206 : decode cL_tells 206 = .ok (.iconst 4, 1) := by decide +kernel
theorem dL_tells_207 : decode cL_tells 207 = .ok (.iload 4, 2) := by decide +kernel
theorem dL_tells_209 : decode cL_tells 209 = .ok (.imul, 1) := by decide +kernel
theorem dL_tells_210 : decode cL_tells 210 = .ok (.iconst 3, 1) := by decide +kernel
theorem dL_tells_211 : decode cL_tells 211 = .ok (.iadd, 1) := by decide +kernel
theorem dL_tells_212 : decode cL_tells 212 = .ok (.iaload, 1) := by decide +kernel
theorem dL_tells_213 : decode cL_tells 213 = .ok (.isub, 1) := by decide +kernel
theorem dL_tells_214 : decode cL_tells 214 = .ok (.irem, 1) := by decide +kernel
theorem dL_tells_215 : decode cL_tells 215 = .ok (.iadd, 1) := by decide +kernel
theorem dL_tells_216 : decode cL_tells 216 = .ok (.iastore, 1) := by decide +kernel
theorem dL_tells_217 : decode cL_tells 217 = .ok (.goto 51, 3) := by decide +kernel
theorem dL_tells_220 : decode cL_tells 220 = .ok (.iload 5, 2) := by decide +kernel
theorem dL_tells_222 : decode cL_tells 222 = .ok (.iconst 3, 1) := by decide +kernel
theorem dL_tells_223 : decode cL_tells 223 = .ok (.if_icmp .ne 45, 3) := by decide +kernel
theorem dL_tells_226 : decode cL_tells 226 = .ok (.aload_n 2, 1) := by decide +kernel
theorem dL_tells_227 : decode cL_tells 227 = .ok (.iconst 2, 1) := by decide +kernel
theorem dL_tells_228 : decode cL_tells 228 = .ok (.iaload, 1) := by decide +kernel
theorem dL_tells_229 : decode cL_tells 229 = .ok (.ifCond .le 7, 3) := by decide +kernel
theorem dL_tells_232 : decode cL_tells 232 = .ok (.iconst 1, 1) := by decide +kernel
theorem dL_tells_233 : decode cL_tells 233 = .ok (.goto 4, 3) := by decide +kernel
theorem dL_tells_236 : decode cL_tells 236 = .ok (.iconst 0, 1) := by decide +kernel
theorem dL_tells_237 : decode cL_tells 237 = .ok (.istore 8, 2) := by decide +kernel
theorem dL_tells_239 : decode cL_tells 239 = .ok (.aload_n 3, 1) := by decide +kernel
theorem dL_tells_240 : decode cL_tells 240 = .ok (.iconst 4, 1) := by decide +kernel
theorem dL_tells_241 : decode cL_tells 241 = .ok (.iload 4, 2) := by decide +kernel
theorem dL_tells_243 : decode cL_tells 243 = .ok (.imul, 1) := by decide +kernel
theorem dL_tells_244 : decode cL_tells 244 = .ok (.iconst 2, 1) := by decide +kernel
theorem dL_tells_245 : decode cL_tells 245 = .ok (.iadd, 1) := by decide +kernel
theorem dL_tells_246 : decode cL_tells 246 = .ok (.aload_n 2, 1) := by decide +kernel
theorem dL_tells_247 : decode cL_tells 247 = .ok (.iconst 2, 1) := by decide +kernel
theorem dL_tells_248 : decode cL_tells 248 = .ok (.iaload, 1) := by decide +kernel
theorem dL_tells_249 : decode cL_tells 249 = .ok (.ifCond .le 17, 3) := by decide +kernel
theorem dL_tells_252 : decode cL_tells 252 = .ok (.aload_n 0, 1) := by decide +kernel
theorem dL_tells_253 : decode cL_tells 253 = .ok (.iload_n 1, 1) := by decide +kernel
theorem dL_tells_254 : decode cL_tells 254 = .ok (.iconst 3, 1) := by decide +kernel
theorem dL_tells_255 : decode cL_tells 255 = .ok (.iadd, 1) := by decide +kernel
theorem dL_tells_256 : decode cL_tells 256 = .ok (.invokestatic 19, 3) := by decide +kernel
theorem dL_tells_259 : decode cL_tells 259 = .ok (.aload_n 2, 1) := by decide +kernel
theorem dL_tells_260 : decode cL_tells 260 = .ok (.iconst 2, 1) := by decide +kernel
theorem dL_tells_261 : decode cL_tells 261 = .ok (.iaload, 1) := by decide +kernel
theorem dL_tells_262 : decode cL_tells 262 = .ok (.irem, 1) := by decide +kernel
theorem dL_tells_263 : decode cL_tells 263 = .ok (.goto 4, 3) := by decide +kernel
theorem dL_tells_266 : decode cL_tells 266 = .ok (.iconst 0, 1) := by decide +kernel
theorem dL_tells_267 : decode cL_tells 267 = .ok (.iastore, 1) := by decide +kernel
theorem dL_tells_268 : decode cL_tells 268 = .ok (.iload 8, 2) := by decide +kernel
theorem dL_tells_270 : decode cL_tells 270 = .ok (.ireturn, 1) := by decide +kernel
theorem dL_events_0 : decode cL_events 0 = .ok (.iconst 0, 1) := by decide +kernel
theorem dL_events_1 : decode cL_events 1 = .ok (.istore 6, 2) := by decide +kernel
theorem dL_events_3 : decode cL_events 3 = .ok (.iconst 0, 1) := by decide +kernel
theorem dL_events_4 : decode cL_events 4 = .ok (.istore 7, 2) := by decide +kernel
theorem dL_events_6 : decode cL_events 6 = .ok (.iload 7, 2) := by decide +kernel
theorem dL_events_8 : decode cL_events 8 = .ok (.iload 5, 2) := by decide +kernel
theorem dL_events_10 : decode cL_events 10 = .ok (.if_icmp .ge 76, 3) := by decide +kernel
theorem dL_events_13 : decode cL_events 13 = .ok (.aload_n 1, 1) := by decide +kernel
theorem dL_events_14 : decode cL_events 14 = .ok (.iload_n 2, 1) := by decide +kernel
theorem dL_events_15 : decode cL_events 15 = .ok (.iconst 4, 1) := by decide +kernel
theorem dL_events_16 : decode cL_events 16 = .ok (.iload 7, 2) := by decide +kernel
theorem dL_events_18 : decode cL_events 18 = .ok (.imul, 1) := by decide +kernel
theorem dL_events_19 : decode cL_events 19 = .ok (.iadd, 1) := by decide +kernel
theorem dL_events_20 : decode cL_events 20 = .ok (.aload_n 3, 1) := by decide +kernel
theorem dL_events_21 : decode cL_events 21 = .ok (.aload 4, 2) := by decide +kernel
theorem dL_events_23 : decode cL_events 23 = .ok (.iload 6, 2) := by decide +kernel
theorem dL_events_25 : decode cL_events 25 = .ok (.invokestatic 38, 3) := by decide +kernel
theorem dL_events_28 : decode cL_events 28 = .ok (.ifCond .eq 52, 3) := by decide +kernel
theorem dL_events_31 : decode cL_events 31 = .ok (.aload_n 0, 1) := by decide +kernel
theorem dL_events_32 : decode cL_events 32 = .ok (.aload 4, 2) := by decide +kernel
theorem dL_events_34 : decode cL_events 34 = .ok (.iconst 4, 1) := by decide +kernel
theorem dL_events_35 : decode cL_events 35 = .ok (.iload 6, 2) := by decide +kernel
theorem dL_events_37 : decode cL_events 37 = .ok (.imul, 1) := by decide +kernel
theorem dL_events_38 : decode cL_events 38 = .ok (.iaload, 1) := by decide +kernel
theorem dL_events_39 : decode cL_events 39 = .ok (.aload 4, 2) := by decide +kernel
theorem dL_events_41 : decode cL_events 41 = .ok (.iconst 4, 1) := by decide +kernel
theorem dL_events_42 : decode cL_events 42 = .ok (.iload 6, 2) := by decide +kernel
theorem dL_events_44 : decode cL_events 44 = .ok (.imul, 1) := by decide +kernel
theorem dL_events_45 : decode cL_events 45 = .ok (.iconst 1, 1) := by decide +kernel
theorem dL_events_46 : decode cL_events 46 = .ok (.iadd, 1) := by decide +kernel
theorem dL_events_47 : decode cL_events 47 = .ok (.iaload, 1) := by decide +kernel
theorem dL_events_48 : decode cL_events 48 = .ok (.aload 4, 2) := by decide +kernel
theorem dL_events_50 : decode cL_events 50 = .ok (.iconst 4, 1) := by decide +kernel
theorem dL_events_51 : decode cL_events 51 = .ok (.iload 6, 2) := by decide +kernel
theorem dL_events_53 : decode cL_events 53 = .ok (.imul, 1) := by decide +kernel
theorem dL_events_54 : decode cL_events 54 = .ok (.iconst 2, 1) := by decide +kernel
theorem dL_events_55 : decode cL_events 55 = .ok (.iadd, 1) := by decide +kernel
theorem dL_events_56 : decode cL_events 56 = .ok (.iaload, 1) := by decide +kernel
theorem dL_events_57 : decode cL_events 57 = .ok (.aload 4, 2) := by decide +kernel
theorem dL_events_59 : decode cL_events 59 = .ok (.iconst 4, 1) := by decide +kernel
theorem dL_events_60 : decode cL_events 60 = .ok (.iload 6, 2) := by decide +kernel
theorem dL_events_62 : decode cL_events 62 = .ok (.imul, 1) := by decide +kernel
theorem dL_events_63 : decode cL_events 63 = .ok (.iconst 3, 1) := by decide +kernel
theorem dL_events_64 : decode cL_events 64 = .ok (.iadd, 1) := by decide +kernel
theorem dL_events_65 : decode cL_events 65 = .ok (.iaload, 1) := by decide +kernel
theorem dL_events_66 : decode cL_events 66 = .ok (.invokevirtual 42, 3) := by decide +kernel
theorem dL_events_69 : decode cL_events 69 = .ok (.iload 6, 2) := by decide +kernel
theorem dL_events_71 : decode cL_events 71 = .ok (.if_icmp .eq 6, 3) := by decide +kernel
theorem dL_events_74 : decode cL_events 74 = .ok (.bipush (-77), 2) := by decide +kernel
theorem dL_events_76 : decode cL_events 76 = .ok (.ireturn, 1) := by decide +kernel
theorem dL_events_77 : decode cL_events 77 = .ok (.iinc 6 1, 3) := by decide +kernel
theorem dL_events_80 : decode cL_events 80 = .ok (.iinc 7 1, 3) := by decide +kernel
theorem dL_events_83 : decode cL_events 83 = .ok (.goto (-77), 3) := by decide +kernel
theorem dL_events_86 : decode cL_events 86 = .ok (.iload 6, 2) := by decide +kernel
theorem dL_events_88 : decode cL_events 88 = .ok (.ireturn, 1) := by decide +kernel
theorem dL_law_0 : decode cL_law 0 = .ok (.new 9, 3) := by decide +kernel
theorem dL_law_3 : decode cL_law 3 = .ok (.dup, 1) := by decide +kernel
theorem dL_law_4 : decode cL_law 4 = .ok (.invokespecial 58, 3) := by decide +kernel
theorem dL_law_7 : decode cL_law 7 = .ok (.astore_n 1, 1) := by decide +kernel
theorem dL_law_8 : decode cL_law 8 = .ok (.new 9, 3) := by decide +kernel
theorem dL_law_11 : decode cL_law 11 = .ok (.dup, 1) := by decide +kernel
theorem dL_law_12 : decode cL_law 12 = .ok (.invokespecial 58, 3) := by decide +kernel
theorem dL_law_15 : decode cL_law 15 = .ok (.astore_n 2, 1) := by decide +kernel
theorem dL_law_16 : decode cL_law 16 = .ok (.bipush 64, 2) := by decide +kernel
theorem dL_law_18 : decode cL_law 18 = .ok (.newarray .int, 2) := by decide +kernel
theorem dL_law_20 : decode cL_law 20 = .ok (.astore_n 3, 1) := by decide +kernel
theorem dL_law_21 : decode cL_law 21 = .ok (.bipush 64, 2) := by decide +kernel
theorem dL_law_23 : decode cL_law 23 = .ok (.newarray .int, 2) := by decide +kernel
theorem dL_law_25 : decode cL_law 25 = .ok (.astore 4, 2) := by decide +kernel
theorem dL_law_27 : decode cL_law 27 = .ok (.bipush 48, 2) := by decide +kernel
theorem dL_law_29 : decode cL_law 29 = .ok (.newarray .int, 2) := by decide +kernel
theorem dL_law_31 : decode cL_law 31 = .ok (.astore 5, 2) := by decide +kernel
theorem dL_law_33 : decode cL_law 33 = .ok (.iconst 1, 1) := by decide +kernel
theorem dL_law_34 : decode cL_law 34 = .ok (.aload_n 0, 1) := by decide +kernel
theorem dL_law_35 : decode cL_law 35 = .ok (.iconst 0, 1) := by decide +kernel
theorem dL_law_36 : decode cL_law 36 = .ok (.invokestatic 19, 3) := by decide +kernel
theorem dL_law_39 : decode cL_law 39 = .ok (.iconst 3, 1) := by decide +kernel
theorem dL_law_40 : decode cL_law 40 = .ok (.irem, 1) := by decide +kernel
theorem dL_law_41 : decode cL_law 41 = .ok (.iadd, 1) := by decide +kernel
theorem dL_law_42 : decode cL_law 42 = .ok (.istore 6, 2) := by decide +kernel
theorem dL_law_44 : decode cL_law 44 = .ok (.iconst 1, 1) := by decide +kernel
theorem dL_law_45 : decode cL_law 45 = .ok (.aload_n 0, 1) := by decide +kernel
theorem dL_law_46 : decode cL_law 46 = .ok (.iconst 1, 1) := by decide +kernel
theorem dL_law_47 : decode cL_law 47 = .ok (.invokestatic 19, 3) := by decide +kernel
theorem dL_law_50 : decode cL_law 50 = .ok (.iconst 5, 1) := by decide +kernel
theorem dL_law_51 : decode cL_law 51 = .ok (.irem, 1) := by decide +kernel
theorem dL_law_52 : decode cL_law 52 = .ok (.iadd, 1) := by decide +kernel
theorem dL_law_53 : decode cL_law 53 = .ok (.istore 7, 2) := by decide +kernel
theorem dL_law_55 : decode cL_law 55 = .ok (.aload_n 0, 1) := by decide +kernel
theorem dL_law_56 : decode cL_law 56 = .ok (.bipush 10, 2) := by decide +kernel
theorem dL_law_58 : decode cL_law 58 = .ok (.iconst 2, 1) := by decide +kernel
theorem dL_law_59 : decode cL_law 59 = .ok (.aload_n 0, 1) := by decide +kernel
theorem dL_law_60 : decode cL_law 60 = .ok (.iconst 2, 1) := by decide +kernel
theorem dL_law_61 : decode cL_law 61 = .ok (.invokestatic 19, 3) := by decide +kernel
theorem dL_law_64 : decode cL_law 64 = .ok (.iconst 4, 1) := by decide +kernel
theorem dL_law_65 : decode cL_law 65 = .ok (.irem, 1) := by decide +kernel
theorem dL_law_66 : decode cL_law 66 = .ok (.iadd, 1) := by decide +kernel
theorem dL_law_67 : decode cL_law 67 = .ok (.iconst 1, 1) := by decide +kernel
theorem dL_law_68 : decode cL_law 68 = .ok (.aload_n 0, 1) := by decide +kernel
theorem dL_law_69 : decode cL_law 69 = .ok (.iconst 3, 1) := by decide +kernel
theorem dL_law_70 : decode cL_law 70 = .ok (.invokestatic 19, 3) := by decide +kernel
theorem dL_law_73 : decode cL_law 73 = .ok (.bipush 6, 2) := by decide +kernel
theorem dL_law_75 : decode cL_law 75 = .ok (.irem, 1) := by decide +kernel
theorem dL_law_76 : decode cL_law 76 = .ok (.iadd, 1) := by decide +kernel
theorem dL_law_77 : decode cL_law 77 = .ok (.iload 6, 2) := by decide +kernel
theorem dL_law_79 : decode cL_law 79 = .ok (.iload 7, 2) := by decide +kernel
theorem dL_law_81 : decode cL_law 81 = .ok (.aload_n 3, 1) := by decide +kernel
theorem dL_law_82 : decode cL_law 82 = .ok (.invokestatic 59, 3) := by decide +kernel
theorem dL_law_85 : decode cL_law 85 = .ok (.aload_n 3, 1) := by decide +kernel
theorem dL_law_86 : decode cL_law 86 = .ok (.iconst 0, 1) := by decide +kernel
theorem dL_law_87 : decode cL_law 87 = .ok (.iaload, 1) := by decide +kernel
theorem dL_law_88 : decode cL_law 88 = .ok (.istore 8, 2) := by decide +kernel
theorem dL_law_90 : decode cL_law 90 = .ok (.iconst 0, 1) := by decide +kernel
theorem dL_law_91 : decode cL_law 91 = .ok (.istore 9, 2) := by decide +kernel
theorem dL_law_93 : decode cL_law 93 = .ok (.iload 9, 2) := by decide +kernel
theorem dL_law_95 : decode cL_law 95 = .ok (.iload 6, 2) := by decide +kernel
theorem dL_law_97 : decode cL_law 97 = .ok (.if_icmp .ge 22, 3) := by decide +kernel
theorem dL_law_100 : decode cL_law 100 = .ok (.aload_n 3, 1) := by decide +kernel
theorem dL_law_101 : decode cL_law 101 = .ok (.bipush 33, 2) := by decide +kernel
theorem dL_law_103 : decode cL_law 103 = .ok (.iload 9, 2) := by decide +kernel
theorem dL_law_105 : decode cL_law 105 = .ok (.iadd, 1) := by decide +kernel
theorem dL_law_106 : decode cL_law 106 = .ok (.iconst 1, 1) := by decide +kernel
theorem dL_law_107 : decode cL_law 107 = .ok (.iload 8, 2) := by decide +kernel
theorem dL_law_109 : decode cL_law 109 = .ok (.ishl, 1) := by decide +kernel
theorem dL_law_110 : decode cL_law 110 = .ok (.iconst 1, 1) := by decide +kernel
theorem dL_law_111 : decode cL_law 111 = .ok (.isub, 1) := by decide +kernel
theorem dL_law_112 : decode cL_law 112 = .ok (.iastore, 1) := by decide +kernel
theorem dL_law_113 : decode cL_law 113 = .ok (.iinc 9 1, 3) := by decide +kernel
theorem dL_law_116 : decode cL_law 116 = .ok (.goto (-23), 3) := by decide +kernel
theorem dL_law_119 : decode cL_law 119 = .ok (.iconst 0, 1) := by decide +kernel
theorem dL_law_120 : decode cL_law 120 = .ok (.istore 9, 2) := by decide +kernel
theorem dL_law_122 : decode cL_law 122 = .ok (.iload 9, 2) := by decide +kernel
theorem dL_law_124 : decode cL_law 124 = .ok (.bipush 64, 2) := by decide +kernel
theorem dL_law_126 : decode cL_law 126 = .ok (.if_icmp .ge 18, 3) := by decide +kernel
theorem dL_law_129 : decode cL_law 129 = .ok (.aload 4, 2) := by decide +kernel
theorem dL_law_131 : decode cL_law 131 = .ok (.iload 9, 2) := by decide +kernel
theorem dL_law_133 : decode cL_law 133 = .ok (.aload_n 3, 1) := by decide +kernel
theorem dL_law_134 : decode cL_law 134 = .ok (.iload 9, 2) := by decide +kernel
theorem dL_law_136 : decode cL_law 136 = .ok (.iaload, 1) := by decide +kernel
theorem dL_law_137 : decode cL_law 137 = .ok (.iastore, 1) := by decide +kernel
theorem dL_law_138 : decode cL_law 138 = .ok (.iinc 9 1, 3) := by decide +kernel
theorem dL_law_141 : decode cL_law 141 = .ok (.goto (-19), 3) := by decide +kernel
theorem dL_law_144 : decode cL_law 144 = .ok (.iconst 0, 1) := by decide +kernel
theorem dL_law_145 : decode cL_law 145 = .ok (.istore 9, 2) := by decide +kernel
theorem dL_law_147 : decode cL_law 147 = .ok (.iload 9, 2) := by decide +kernel
theorem dL_law_149 : decode cL_law 149 = .ok (.aload_n 3, 1) := by decide +kernel
theorem dL_law_150 : decode cL_law 150 = .ok (.iconst 1, 1) := by decide +kernel
theorem dL_law_151 : decode cL_law 151 = .ok (.iaload, 1) := by decide +kernel
theorem dL_law_152 : decode cL_law 152 = .ok (.if_icmp .ge 57, 3) := by decide +kernel
theorem dL_law_155 : decode cL_law 155 = .ok (.aload 4, 2) := by decide +kernel
theorem dL_law_157 : decode cL_law 157 = .ok (.bipush 8, 2) := by decide +kernel
theorem dL_law_159 : decode cL_law 159 = .ok (.iconst 2, 1) := by decide +kernel
theorem dL_law_160 : decode cL_law 160 = .ok (.iload 9, 2) := by decide +kernel
theorem dL_law_162 : decode cL_law 162 = .ok (.imul, 1) := by decide +kernel
theorem dL_law_163 : decode cL_law 163 = .ok (.iadd, 1) := by decide +kernel
theorem dL_law_164 : decode cL_law 164 = .ok (.iload 8, 2) := by decide +kernel
theorem dL_law_166 : decode cL_law 166 = .ok (.iconst 1, 1) := by decide +kernel
theorem dL_law_167 : decode cL_law 167 = .ok (.isub, 1) := by decide +kernel
theorem dL_law_168 : decode cL_law 168 = .ok (.aload_n 3, 1) := by decide +kernel
theorem dL_law_169 : decode cL_law 169 = .ok (.bipush 9, 2) := by decide +kernel
theorem dL_law_171 : decode cL_law 171 = .ok (.iconst 2, 1) := by decide +kernel
theorem dL_law_172 : decode cL_law 172 = .ok (.iload 9, 2) := by decide +kernel
theorem dL_law_174 : decode cL_law 174 = .ok (.imul, 1) := by decide +kernel
theorem dL_law_175 : decode cL_law 175 = .ok (.iadd, 1) := by decide +kernel
theorem dL_law_176 : decode cL_law 176 = .ok (.iaload, 1) := by decide +kernel
theorem dL_law_177 : decode cL_law 177 = .ok (.isub, 1) := by decide +kernel
theorem dL_law_178 : decode cL_law 178 = .ok (.iastore, 1) := by decide +kernel
theorem dL_law_179 : decode cL_law 179 = .ok (.aload 4, 2) := by decide +kernel
theorem dL_law_181 : decode cL_law 181 = .ok (.bipush 9, 2) := by decide +kernel
theorem dL_law_183 : decode cL_law 183 = .ok (.iconst 2, 1) := by decide +kernel
theorem dL_law_184 : decode cL_law 184 = .ok (.iload 9, 2) := by decide +kernel
theorem dL_law_186 : decode cL_law 186 = .ok (.imul, 1) := by decide +kernel
theorem dL_law_187 : decode cL_law 187 = .ok (.iadd, 1) := by decide +kernel
theorem dL_law_188 : decode cL_law 188 = .ok (.iload 8, 2) := by decide +kernel
theorem dL_law_190 : decode cL_law 190 = .ok (.iconst 1, 1) := by decide +kernel
theorem dL_law_191 : decode cL_law 191 = .ok (.isub, 1) := by decide +kernel
theorem dL_law_192 : decode cL_law 192 = .ok (.aload_n 3, 1) := by decide +kernel
theorem dL_law_193 : decode cL_law 193 = .ok (.bipush 8, 2) := by decide +kernel
theorem dL_law_195 : decode cL_law 195 = .ok (.iconst 2, 1) := by decide +kernel
theorem dL_law_196 : decode cL_law 196 = .ok (.iload 9, 2) := by decide +kernel
theorem dL_law_198 : decode cL_law 198 = .ok (.imul, 1) := by decide +kernel
theorem dL_law_199 : decode cL_law 199 = .ok (.iadd, 1) := by decide +kernel
theorem dL_law_200 : decode cL_law 200 = .ok (.iaload, 1) := by decide +kernel
theorem dL_law_201 : decode cL_law 201 = .ok (.isub, 1) := by decide +kernel
theorem dL_law_202 : decode cL_law 202 = .ok (.iastore, 1) := by decide +kernel
theorem dL_law_203 : decode cL_law 203 = .ok (.iinc 9 1, 3) := by decide +kernel
theorem dL_law_206 : decode cL_law 206 = .ok (.goto (-59), 3) := by decide +kernel
theorem dL_law_209 : decode cL_law 209 = .ok (.aload_n 1, 1) := by decide +kernel
theorem dL_law_210 : decode cL_law 210 = .ok (.aload_n 3, 1) := by decide +kernel
theorem dL_law_211 : decode cL_law 211 = .ok (.invokestatic 63, 3) := by decide +kernel
theorem dL_law_214 : decode cL_law 214 = .ok (.ifCond .eq 12, 3) := by decide +kernel
theorem dL_law_217 : decode cL_law 217 = .ok (.aload_n 2, 1) := by decide +kernel
theorem dL_law_218 : decode cL_law 218 = .ok (.aload 4, 2) := by decide +kernel
theorem dL_law_220 : decode cL_law 220 = .ok (.invokestatic 63, 3) := by decide +kernel
theorem dL_law_223 : decode cL_law 223 = .ok (.ifCond .ne 5, 3) := by decide +kernel
theorem dL_law_226 : decode cL_law 226 = .ok (.iconst 0, 1) := by decide +kernel
theorem dL_law_227 : decode cL_law 227 = .ok (.ireturn, 1) := by decide +kernel
theorem dL_law_228 : decode cL_law 228 = .ok (.aload_n 1, 1) := by decide +kernel
theorem dL_law_229 : decode cL_law 229 = .ok (.aload_n 0, 1) := by decide +kernel
theorem dL_law_230 : decode cL_law 230 = .ok (.bipush 60, 2) := by decide +kernel
theorem dL_law_232 : decode cL_law 232 = .ok (.aload_n 3, 1) := by decide +kernel
theorem dL_law_233 : decode cL_law 233 = .ok (.aload 5, 2) := by decide +kernel
theorem dL_law_235 : decode cL_law 235 = .ok (.aload_n 0, 1) := by decide +kernel
theorem dL_law_236 : decode cL_law 236 = .ok (.iconst 4, 1) := by decide +kernel
theorem dL_law_237 : decode cL_law 237 = .ok (.invokestatic 19, 3) := by decide +kernel
theorem dL_law_240 : decode cL_law 240 = .ok (.bipush 10, 2) := by decide +kernel
theorem dL_law_242 : decode cL_law 242 = .ok (.irem, 1) := by decide +kernel
theorem dL_law_243 : decode cL_law 243 = .ok (.invokestatic 66, 3) := by decide +kernel
theorem dL_law_246 : decode cL_law 246 = .ok (.istore 9, 2) := by decide +kernel
theorem dL_law_248 : decode cL_law 248 = .ok (.iload 9, 2) := by decide +kernel
theorem dL_law_250 : decode cL_law 250 = .ok (.ifCond .ge 5, 3) := by decide +kernel
theorem dL_law_253 : decode cL_law 253 = .ok (.iconst 0, 1) := by decide +kernel
theorem dL_law_254 : decode cL_law 254 = .ok (.ireturn, 1) := by decide +kernel
theorem dL_law_255 : decode cL_law 255 = .ok (.iconst 0, 1) := by decide +kernel
theorem dL_law_256 : decode cL_law 256 = .ok (.istore 10, 2) := by decide +kernel
theorem dL_law_258 : decode cL_law 258 = .ok (.iload 10, 2) := by decide +kernel
theorem dL_law_260 : decode cL_law 260 = .ok (.iload 9, 2) := by decide +kernel
theorem dL_law_262 : decode cL_law 262 = .ok (.if_icmp .ge 205, 3) := by decide +kernel
theorem dL_law_265 : decode cL_law 265 = .ok (.aload 5, 2) := by decide +kernel
theorem dL_law_267 : decode cL_law 267 = .ok (.iconst 4, 1) := by decide +kernel
theorem dL_law_268 : decode cL_law 268 = .ok (.iload 10, 2) := by decide +kernel
theorem dL_law_270 : decode cL_law 270 = .ok (.imul, 1) := by decide +kernel
theorem dL_law_271 : decode cL_law 271 = .ok (.iaload, 1) := by decide +kernel
theorem dL_law_272 : decode cL_law 272 = .ok (.istore 11, 2) := by decide +kernel
theorem dL_law_274 : decode cL_law 274 = .ok (.iload 11, 2) := by decide +kernel
theorem dL_law_276 : decode cL_law 276 = .ok (.iconst 1, 1) := by decide +kernel
theorem dL_law_277 : decode cL_law 277 = .ok (.if_icmp .eq 9, 3) := by decide +kernel
theorem dL_law_280 : decode cL_law 280 = .ok (.iload 11, 2) := by decide +kernel
theorem dL_law_282 : decode cL_law 282 = .ok (.iconst 5, 1) := by decide +kernel
theorem dL_law_283 : decode cL_law 283 = .ok (.if_icmp .ne 7, 3) := by decide +kernel
theorem dL_law_286 : decode cL_law 286 = .ok (.iconst 1, 1) := by decide +kernel
theorem dL_law_287 : decode cL_law 287 = .ok (.goto 4, 3) := by decide +kernel
theorem dL_law_290 : decode cL_law 290 = .ok (.iconst 0, 1) := by decide +kernel
theorem dL_law_291 : decode cL_law 291 = .ok (.istore 12, 2) := by decide +kernel
theorem dL_law_293 : decode cL_law 293 = .ok (.iload 12, 2) := by decide +kernel
theorem dL_law_295 : decode cL_law 295 = .ok (.ifCond .eq 15, 3) := by decide +kernel
theorem dL_law_298 : decode cL_law 298 = .ok (.aload 5, 2) := by decide +kernel
theorem dL_law_300 : decode cL_law 300 = .ok (.iconst 4, 1) := by decide +kernel
theorem dL_law_301 : decode cL_law 301 = .ok (.iload 10, 2) := by decide +kernel
theorem dL_law_303 : decode cL_law 303 = .ok (.imul, 1) := by decide +kernel
theorem dL_law_304 : decode cL_law 304 = .ok (.iconst 1, 1) := by decide +kernel
theorem dL_law_305 : decode cL_law 305 = .ok (.iadd, 1) := by decide +kernel
theorem dL_law_306 : decode cL_law 306 = .ok (.iaload, 1) := by decide +kernel
theorem dL_law_307 : decode cL_law 307 = .ok (.goto 17, 3) := by decide +kernel
theorem dL_law_310 : decode cL_law 310 = .ok (.iload 8, 2) := by decide +kernel
theorem dL_law_312 : decode cL_law 312 = .ok (.iconst 1, 1) := by decide +kernel
theorem dL_law_313 : decode cL_law 313 = .ok (.isub, 1) := by decide +kernel
theorem dL_law_314 : decode cL_law 314 = .ok (.aload 5, 2) := by decide +kernel
theorem dL_law_316 : decode cL_law 316 = .ok (.iconst 4, 1) := by decide +kernel
theorem dL_law_317 : decode cL_law 317 = .ok (.iload 10, 2) := by decide +kernel
theorem dL_law_319 : decode cL_law 319 = .ok (.imul, 1) := by decide +kernel
theorem dL_law_320 : decode cL_law 320 = .ok (.iconst 1, 1) := by decide +kernel
theorem dL_law_321 : decode cL_law 321 = .ok (.iadd, 1) := by decide +kernel
theorem dL_law_322 : decode cL_law 322 = .ok (.iaload, 1) := by decide +kernel
theorem dL_law_323 : decode cL_law 323 = .ok (.isub, 1) := by decide +kernel
theorem dL_law_324 : decode cL_law 324 = .ok (.istore 13, 2) := by decide +kernel
theorem dL_law_326 : decode cL_law 326 = .ok (.iload 11, 2) := by decide +kernel
theorem dL_law_328 : decode cL_law 328 = .ok (.iconst 5, 1) := by decide +kernel
theorem dL_law_329 : decode cL_law 329 = .ok (.if_icmp .ne 20, 3) := by decide +kernel
theorem dL_law_332 : decode cL_law 332 = .ok (.iload 7, 2) := by decide +kernel
theorem dL_law_334 : decode cL_law 334 = .ok (.iconst 1, 1) := by decide +kernel
theorem dL_law_335 : decode cL_law 335 = .ok (.isub, 1) := by decide +kernel
theorem dL_law_336 : decode cL_law 336 = .ok (.aload 5, 2) := by decide +kernel
theorem dL_law_338 : decode cL_law 338 = .ok (.iconst 4, 1) := by decide +kernel
theorem dL_law_339 : decode cL_law 339 = .ok (.iload 10, 2) := by decide +kernel
theorem dL_law_341 : decode cL_law 341 = .ok (.imul, 1) := by decide +kernel
theorem dL_law_342 : decode cL_law 342 = .ok (.iconst 2, 1) := by decide +kernel
theorem dL_law_343 : decode cL_law 343 = .ok (.iadd, 1) := by decide +kernel
theorem dL_law_344 : decode cL_law 344 = .ok (.iaload, 1) := by decide +kernel
theorem dL_law_345 : decode cL_law 345 = .ok (.isub, 1) := by decide +kernel
theorem dL_law_346 : decode cL_law 346 = .ok (.goto 37, 3) := by decide +kernel
theorem dL_law_349 : decode cL_law 349 = .ok (.iload 12, 2) := by decide +kernel
theorem dL_law_351 : decode cL_law 351 = .ok (.ifCond .eq 20, 3) := by decide +kernel
theorem dL_law_354 : decode cL_law 354 = .ok (.iload 7, 2) := by decide +kernel
theorem dL_law_356 : decode cL_law 356 = .ok (.iconst 1, 1) := by decide +kernel
theorem dL_law_357 : decode cL_law 357 = .ok (.isub, 1) := by decide +kernel
theorem dL_law_358 : decode cL_law 358 = .ok (.aload 5, 2) := by decide +kernel
theorem dL_law_360 : decode cL_law 360 = .ok (.iconst 4, 1) := by decide +kernel
theorem dL_law_361 : decode cL_law 361 = .ok (.iload 10, 2) := by decide +kernel
theorem dL_law_363 : decode cL_law 363 = .ok (.imul, 1) := by decide +kernel
theorem dL_law_364 : decode cL_law 364 = .ok (.iconst 3, 1) := by decide +kernel
theorem dL_law_365 : decode cL_law 365 = .ok (.iadd, 1) := by decide +kernel
theorem dL_law_366 : decode cL_law 366 = .ok (.iaload, 1) := by decide +kernel
theorem dL_law_367 : decode cL_law 367 = .ok (.isub, 1) := by decide +kernel
theorem dL_law_368 : decode cL_law 368 = .ok (.goto 15, 3) := by decide +kernel
theorem dL_law_371 : decode cL_law 371 = .ok (.iload 7, 2) := by decide +kernel
theorem dL_law_373 : decode cL_law 373 = .ok (.aload 5, 2) := by decide +kernel
theorem dL_law_375 : decode cL_law 375 = .ok (.iconst 4, 1) := by decide +kernel
theorem dL_law_376 : decode cL_law 376 = .ok (.iload 10, 2) := by decide +kernel
theorem dL_law_378 : decode cL_law 378 = .ok (.imul, 1) := by decide +kernel
theorem dL_law_379 : decode cL_law 379 = .ok (.iconst 3, 1) := by decide +kernel
theorem dL_law_380 : decode cL_law 380 = .ok (.iadd, 1) := by decide +kernel
theorem dL_law_381 : decode cL_law 381 = .ok (.iaload, 1) := by decide +kernel
theorem dL_law_382 : decode cL_law 382 = .ok (.isub, 1) := by decide +kernel
theorem dL_law_383 : decode cL_law 383 = .ok (.istore 14, 2) := by decide +kernel
theorem dL_law_385 : decode cL_law 385 = .ok (.iload 11, 2) := by decide +kernel
theorem dL_law_387 : decode cL_law 387 = .ok (.iconst 5, 1) := by decide +kernel
theorem dL_law_388 : decode cL_law 388 = .ok (.if_icmp .ne 20, 3) := by decide +kernel
theorem dL_law_391 : decode cL_law 391 = .ok (.iload 7, 2) := by decide +kernel
theorem dL_law_393 : decode cL_law 393 = .ok (.iconst 1, 1) := by decide +kernel
theorem dL_law_394 : decode cL_law 394 = .ok (.isub, 1) := by decide +kernel
theorem dL_law_395 : decode cL_law 395 = .ok (.aload 5, 2) := by decide +kernel
theorem dL_law_397 : decode cL_law 397 = .ok (.iconst 4, 1) := by decide +kernel
theorem dL_law_398 : decode cL_law 398 = .ok (.iload 10, 2) := by decide +kernel
theorem dL_law_400 : decode cL_law 400 = .ok (.imul, 1) := by decide +kernel
theorem dL_law_401 : decode cL_law 401 = .ok (.iconst 3, 1) := by decide +kernel
theorem dL_law_402 : decode cL_law 402 = .ok (.iadd, 1) := by decide +kernel
theorem dL_law_403 : decode cL_law 403 = .ok (.iaload, 1) := by decide +kernel
theorem dL_law_404 : decode cL_law 404 = .ok (.isub, 1) := by decide +kernel
theorem dL_law_405 : decode cL_law 405 = .ok (.goto 12, 3) := by decide +kernel
theorem dL_law_408 : decode cL_law 408 = .ok (.aload 5, 2) := by decide +kernel
theorem dL_law_410 : decode cL_law 410 = .ok (.iconst 4, 1) := by decide +kernel
theorem dL_law_411 : decode cL_law 411 = .ok (.iload 10, 2) := by decide +kernel
theorem dL_law_413 : decode cL_law 413 = .ok (.imul, 1) := by decide +kernel
theorem dL_law_414 : decode cL_law 414 = .ok (.iconst 2, 1) := by decide +kernel
theorem dL_law_415 : decode cL_law 415 = .ok (.iadd, 1) := by decide +kernel
theorem dL_law_416 : decode cL_law 416 = .ok (.iaload, 1) := by decide +kernel
theorem dL_law_417 : decode cL_law 417 = .ok (.istore 15, 2) := by decide +kernel
theorem dL_law_419 : decode cL_law 419 = .ok (.aload_n 2, 1) := by decide +kernel
theorem dL_law_420 : decode cL_law 420 = .ok (.iload 11, 2) := by decide +kernel
theorem dL_law_422 : decode cL_law 422 = .ok (.iload 13, 2) := by decide +kernel
theorem dL_law_424 : decode cL_law 424 = .ok (.iload 15, 2) := by decide +kernel
theorem dL_law_426 : decode cL_law 426 = .ok (.iload 14, 2) := by decide +kernel
theorem dL_law_428 : decode cL_law 428 = .ok (.invokevirtual 42, 3) := by decide +kernel
theorem dL_law_431 : decode cL_law 431 = .ok (.iload 10, 2) := by decide +kernel
theorem dL_law_433 : decode cL_law 433 = .ok (.if_icmp .ne 26, 3) := by decide +kernel
theorem dL_law_436 : decode cL_law 436 = .ok (.iload 11, 2) := by decide +kernel
theorem dL_law_438 : decode cL_law 438 = .ok (.iconst 5, 1) := by decide +kernel
theorem dL_law_439 : decode cL_law 439 = .ok (.if_icmp .ne 22, 3) := by decide +kernel
theorem dL_law_442 : decode cL_law 442 = .ok (.aload_n 1, 1) := by decide +kernel
theorem dL_law_443 : decode cL_law 443 = .ok (.iload 10, 2) := by decide +kernel
theorem dL_law_445 : decode cL_law 445 = .ok (.iconst 5, 1) := by decide +kernel
theorem dL_law_446 : decode cL_law 446 = .ok (.invokevirtual 70, 3) := by decide +kernel
theorem dL_law_449 : decode cL_law 449 = .ok (.aload_n 2, 1) := by decide +kernel
theorem dL_law_450 : decode cL_law 450 = .ok (.iload 10, 2) := by decide +kernel
theorem dL_law_452 : decode cL_law 452 = .ok (.iconst 5, 1) := by decide +kernel
theorem dL_law_453 : decode cL_law 453 = .ok (.invokevirtual 70, 3) := by decide +kernel
theorem dL_law_456 : decode cL_law 456 = .ok (.if_icmp .eq 5, 3) := by decide +kernel
theorem dL_law_459 : decode cL_law 459 = .ok (.iconst 0, 1) := by decide +kernel
theorem dL_law_460 : decode cL_law 460 = .ok (.ireturn, 1) := by decide +kernel
theorem dL_law_461 : decode cL_law 461 = .ok (.iinc 10 1, 3) := by decide +kernel
theorem dL_law_464 : decode cL_law 464 = .ok (.goto (-206), 3) := by decide +kernel
theorem dL_law_467 : decode cL_law 467 = .ok (.aload_n 1, 1) := by decide +kernel
theorem dL_law_468 : decode cL_law 468 = .ok (.invokevirtual 73, 3) := by decide +kernel
theorem dL_law_471 : decode cL_law 471 = .ok (.istore 10, 2) := by decide +kernel
theorem dL_law_473 : decode cL_law 473 = .ok (.aload_n 2, 1) := by decide +kernel
theorem dL_law_474 : decode cL_law 474 = .ok (.invokevirtual 73, 3) := by decide +kernel
theorem dL_law_477 : decode cL_law 477 = .ok (.iload 10, 2) := by decide +kernel
theorem dL_law_479 : decode cL_law 479 = .ok (.if_icmp .ne 78, 3) := by decide +kernel
theorem dL_law_482 : decode cL_law 482 = .ok (.aload_n 1, 1) := by decide +kernel
theorem dL_law_483 : decode cL_law 483 = .ok (.invokevirtual 77, 3) := by decide +kernel
theorem dL_law_486 : decode cL_law 486 = .ok (.iload 10, 2) := by decide +kernel
theorem dL_law_488 : decode cL_law 488 = .ok (.if_icmp .ne 69, 3) := by decide +kernel
theorem dL_law_491 : decode cL_law 491 = .ok (.aload_n 1, 1) := by decide +kernel
theorem dL_law_492 : decode cL_law 492 = .ok (.invokevirtual 80, 3) := by decide +kernel
theorem dL_law_495 : decode cL_law 495 = .ok (.iload 10, 2) := by decide +kernel
theorem dL_law_497 : decode cL_law 497 = .ok (.i2l, 1) := by decide +kernel
theorem dL_law_498 : decode cL_law 498 = .ok (.lcmp, 1) := by decide +kernel
theorem dL_law_499 : decode cL_law 499 = .ok (.ifCond .lt 58, 3) := by decide +kernel
theorem dL_law_502 : decode cL_law 502 = .ok (.aload_n 2, 1) := by decide +kernel
theorem dL_law_503 : decode cL_law 503 = .ok (.invokevirtual 77, 3) := by decide +kernel
theorem dL_law_506 : decode cL_law 506 = .ok (.iload 10, 2) := by decide +kernel
theorem dL_law_508 : decode cL_law 508 = .ok (.if_icmp .ne 49, 3) := by decide +kernel
theorem dL_law_511 : decode cL_law 511 = .ok (.aload_n 2, 1) := by decide +kernel
theorem dL_law_512 : decode cL_law 512 = .ok (.invokevirtual 80, 3) := by decide +kernel
theorem dL_law_515 : decode cL_law 515 = .ok (.aload_n 1, 1) := by decide +kernel
theorem dL_law_516 : decode cL_law 516 = .ok (.invokevirtual 80, 3) := by decide +kernel
theorem dL_law_519 : decode cL_law 519 = .ok (.lcmp, 1) := by decide +kernel
theorem dL_law_520 : decode cL_law 520 = .ok (.ifCond .ne 37, 3) := by decide +kernel
theorem dL_law_523 : decode cL_law 523 = .ok (.aload_n 1, 1) := by decide +kernel
theorem dL_law_524 : decode cL_law 524 = .ok (.invokevirtual 84, 3) := by decide +kernel
theorem dL_law_527 : decode cL_law 527 = .ok (.aload_n 2, 1) := by decide +kernel
theorem dL_law_528 : decode cL_law 528 = .ok (.invokevirtual 84, 3) := by decide +kernel
theorem dL_law_531 : decode cL_law 531 = .ok (.if_icmp .ne 26, 3) := by decide +kernel
theorem dL_law_534 : decode cL_law 534 = .ok (.aload_n 1, 1) := by decide +kernel
theorem dL_law_535 : decode cL_law 535 = .ok (.invokevirtual 87, 3) := by decide +kernel
theorem dL_law_538 : decode cL_law 538 = .ok (.aload_n 2, 1) := by decide +kernel
theorem dL_law_539 : decode cL_law 539 = .ok (.invokevirtual 87, 3) := by decide +kernel
theorem dL_law_542 : decode cL_law 542 = .ok (.if_icmp .ne 15, 3) := by decide +kernel
theorem dL_law_545 : decode cL_law 545 = .ok (.aload_n 1, 1) := by decide +kernel
theorem dL_law_546 : decode cL_law 546 = .ok (.invokevirtual 80, 3) := by decide +kernel
theorem dL_law_549 : decode cL_law 549 = .ok (.aload_n 2, 1) := by decide +kernel
theorem dL_law_550 : decode cL_law 550 = .ok (.invokevirtual 80, 3) := by decide +kernel
theorem dL_law_553 : decode cL_law 553 = .ok (.lcmp, 1) := by decide +kernel
theorem dL_law_554 : decode cL_law 554 = .ok (.ifCond .eq 5, 3) := by decide +kernel
theorem dL_law_557 : decode cL_law 557 = .ok (.iconst 0, 1) := by decide +kernel
theorem dL_law_558 : decode cL_law 558 = .ok (.ireturn, 1) := by decide +kernel
theorem dL_law_559 : decode cL_law 559 = .ok (.aload_n 1, 1) := by decide +kernel
theorem dL_law_560 : decode cL_law 560 = .ok (.iconst 3, 1) := by decide +kernel
theorem dL_law_561 : decode cL_law 561 = .ok (.iconst 5, 1) := by decide +kernel
theorem dL_law_562 : decode cL_law 562 = .ok (.invokevirtual 90, 3) := by decide +kernel
theorem dL_law_565 : decode cL_law 565 = .ok (.istore 11, 2) := by decide +kernel
theorem dL_law_567 : decode cL_law 567 = .ok (.aload_n 2, 1) := by decide +kernel
theorem dL_law_568 : decode cL_law 568 = .ok (.iconst 3, 1) := by decide +kernel
theorem dL_law_569 : decode cL_law 569 = .ok (.iconst 5, 1) := by decide +kernel
theorem dL_law_570 : decode cL_law 570 = .ok (.invokevirtual 90, 3) := by decide +kernel
theorem dL_law_573 : decode cL_law 573 = .ok (.iload 11, 2) := by decide +kernel
theorem dL_law_575 : decode cL_law 575 = .ok (.if_icmp .ne 19, 3) := by decide +kernel
theorem dL_law_578 : decode cL_law 578 = .ok (.iload 11, 2) := by decide +kernel
theorem dL_law_580 : decode cL_law 580 = .ok (.ifCond .lt 16, 3) := by decide +kernel
theorem dL_law_583 : decode cL_law 583 = .ok (.aload_n 1, 1) := by decide +kernel
theorem dL_law_584 : decode cL_law 584 = .ok (.invokevirtual 93, 3) := by decide +kernel
theorem dL_law_587 : decode cL_law 587 = .ok (.aload_n 2, 1) := by decide +kernel
theorem dL_law_588 : decode cL_law 588 = .ok (.invokevirtual 93, 3) := by decide +kernel
theorem dL_law_591 : decode cL_law 591 = .ok (.if_icmp .eq 5, 3) := by decide +kernel
theorem dL_law_594 : decode cL_law 594 = .ok (.iconst 0, 1) := by decide +kernel
theorem dL_law_595 : decode cL_law 595 = .ok (.ireturn, 1) := by decide +kernel
theorem dL_law_596 : decode cL_law 596 = .ok (.aload_n 1, 1) := by decide +kernel
theorem dL_law_597 : decode cL_law 597 = .ok (.iconst 3, 1) := by decide +kernel
theorem dL_law_598 : decode cL_law 598 = .ok (.iconst 5, 1) := by decide +kernel
theorem dL_law_599 : decode cL_law 599 = .ok (.iconst 4, 1) := by decide +kernel
theorem dL_law_600 : decode cL_law 600 = .ok (.invokevirtual 96, 3) := by decide +kernel
theorem dL_law_603 : decode cL_law 603 = .ok (.istore 12, 2) := by decide +kernel
theorem dL_law_605 : decode cL_law 605 = .ok (.aload_n 2, 1) := by decide +kernel
theorem dL_law_606 : decode cL_law 606 = .ok (.iconst 3, 1) := by decide +kernel
theorem dL_law_607 : decode cL_law 607 = .ok (.iconst 5, 1) := by decide +kernel
theorem dL_law_608 : decode cL_law 608 = .ok (.iconst 4, 1) := by decide +kernel
theorem dL_law_609 : decode cL_law 609 = .ok (.invokevirtual 96, 3) := by decide +kernel
theorem dL_law_612 : decode cL_law 612 = .ok (.iload 12, 2) := by decide +kernel
theorem dL_law_614 : decode cL_law 614 = .ok (.if_icmp .ne 19, 3) := by decide +kernel
theorem dL_law_617 : decode cL_law 617 = .ok (.iload 12, 2) := by decide +kernel
theorem dL_law_619 : decode cL_law 619 = .ok (.ifCond .lt 16, 3) := by decide +kernel
theorem dL_law_622 : decode cL_law 622 = .ok (.aload_n 1, 1) := by decide +kernel
theorem dL_law_623 : decode cL_law 623 = .ok (.invokevirtual 93, 3) := by decide +kernel
theorem dL_law_626 : decode cL_law 626 = .ok (.aload_n 2, 1) := by decide +kernel
theorem dL_law_627 : decode cL_law 627 = .ok (.invokevirtual 93, 3) := by decide +kernel
theorem dL_law_630 : decode cL_law 630 = .ok (.if_icmp .eq 5, 3) := by decide +kernel
theorem dL_law_633 : decode cL_law 633 = .ok (.iconst 0, 1) := by decide +kernel
theorem dL_law_634 : decode cL_law 634 = .ok (.ireturn, 1) := by decide +kernel
theorem dL_law_635 : decode cL_law 635 = .ok (.iload 10, 2) := by decide +kernel
theorem dL_law_637 : decode cL_law 637 = .ok (.ifCond .ne 70, 3) := by decide +kernel
theorem dL_law_640 : decode cL_law 640 = .ok (.aload_n 1, 1) := by decide +kernel
theorem dL_law_641 : decode cL_law 641 = .ok (.iconst 3, 1) := by decide +kernel
theorem dL_law_642 : decode cL_law 642 = .ok (.iconst 5, 1) := by decide +kernel
theorem dL_law_643 : decode cL_law 643 = .ok (.invokevirtual 90, 3) := by decide +kernel
theorem dL_law_646 : decode cL_law 646 = .ok (.istore 13, 2) := by decide +kernel
theorem dL_law_648 : decode cL_law 648 = .ok (.iload 13, 2) := by decide +kernel
theorem dL_law_650 : decode cL_law 650 = .ok (.bipush (-9), 2) := by decide +kernel
theorem dL_law_652 : decode cL_law 652 = .ok (.if_icmp .eq 49, 3) := by decide +kernel
theorem dL_law_655 : decode cL_law 655 = .ok (.iload 13, 2) := by decide +kernel
theorem dL_law_657 : decode cL_law 657 = .ok (.ifCond .le 48, 3) := by decide +kernel
theorem dL_law_660 : decode cL_law 660 = .ok (.aload_n 1, 1) := by decide +kernel
theorem dL_law_661 : decode cL_law 661 = .ok (.iconst 2, 1) := by decide +kernel
theorem dL_law_662 : decode cL_law 662 = .ok (.iconst 5, 1) := by decide +kernel
theorem dL_law_663 : decode cL_law 663 = .ok (.invokevirtual 90, 3) := by decide +kernel
theorem dL_law_666 : decode cL_law 666 = .ok (.iload 13, 2) := by decide +kernel
theorem dL_law_668 : decode cL_law 668 = .ok (.if_icmp .gt 37, 3) := by decide +kernel
theorem dL_law_671 : decode cL_law 671 = .ok (.aload_n 1, 1) := by decide +kernel
theorem dL_law_672 : decode cL_law 672 = .ok (.iconst 3, 1) := by decide +kernel
theorem dL_law_673 : decode cL_law 673 = .ok (.iconst 4, 1) := by decide +kernel
theorem dL_law_674 : decode cL_law 674 = .ok (.invokevirtual 90, 3) := by decide +kernel
theorem dL_law_677 : decode cL_law 677 = .ok (.iload 13, 2) := by decide +kernel
theorem dL_law_679 : decode cL_law 679 = .ok (.if_icmp .gt 26, 3) := by decide +kernel
theorem dL_law_682 : decode cL_law 682 = .ok (.aload_n 1, 1) := by decide +kernel
theorem dL_law_683 : decode cL_law 683 = .ok (.iconst 0, 1) := by decide +kernel
theorem dL_law_684 : decode cL_law 684 = .ok (.iconst 0, 1) := by decide +kernel
theorem dL_law_685 : decode cL_law 685 = .ok (.invokevirtual 90, 3) := by decide +kernel
theorem dL_law_688 : decode cL_law 688 = .ok (.ifCond .ne 17, 3) := by decide +kernel
theorem dL_law_691 : decode cL_law 691 = .ok (.aload_n 1, 1) := by decide +kernel
theorem dL_law_692 : decode cL_law 692 = .ok (.iconst 3, 1) := by decide +kernel
theorem dL_law_693 : decode cL_law 693 = .ok (.iconst 5, 1) := by decide +kernel
theorem dL_law_694 : decode cL_law 694 = .ok (.iconst 0, 1) := by decide +kernel
theorem dL_law_695 : decode cL_law 695 = .ok (.invokevirtual 96, 3) := by decide +kernel
theorem dL_law_698 : decode cL_law 698 = .ok (.ifCond .lt 7, 3) := by decide +kernel
theorem dL_law_701 : decode cL_law 701 = .ok (.iconst 1, 1) := by decide +kernel
theorem dL_law_702 : decode cL_law 702 = .ok (.goto 4, 3) := by decide +kernel
theorem dL_law_705 : decode cL_law 705 = .ok (.iconst 0, 1) := by decide +kernel
theorem dL_law_706 : decode cL_law 706 = .ok (.ireturn, 1) := by decide +kernel
theorem dL_law_707 : decode cL_law 707 = .ok (.iconst 0, 1) := by decide +kernel
theorem dL_law_708 : decode cL_law 708 = .ok (.istore 13, 2) := by decide +kernel
theorem dL_law_710 : decode cL_law 710 = .ok (.iload 13, 2) := by decide +kernel
theorem dL_law_712 : decode cL_law 712 = .ok (.iload 7, 2) := by decide +kernel
theorem dL_law_714 : decode cL_law 714 = .ok (.if_icmp .gt 259, 3) := by decide +kernel
theorem dL_law_717 : decode cL_law 717 = .ok (.iconst 0, 1) := by decide +kernel
theorem dL_law_718 : decode cL_law 718 = .ok (.istore 14, 2) := by decide +kernel
theorem dL_law_720 : decode cL_law 720 = .ok (.iload 14, 2) := by decide +kernel
theorem dL_law_722 : decode cL_law 722 = .ok (.iload 8, 2) := by decide +kernel
theorem dL_law_724 : decode cL_law 724 = .ok (.if_icmp .ge 113, 3) := by decide +kernel
theorem dL_law_727 : decode cL_law 727 = .ok (.aload_n 1, 1) := by decide +kernel
theorem dL_law_728 : decode cL_law 728 = .ok (.iload 14, 2) := by decide +kernel
theorem dL_law_730 : decode cL_law 730 = .ok (.iload 13, 2) := by decide +kernel
theorem dL_law_732 : decode cL_law 732 = .ok (.invokevirtual 99, 3) := by decide +kernel
theorem dL_law_735 : decode cL_law 735 = .ok (.istore 15, 2) := by decide +kernel
theorem dL_law_737 : decode cL_law 737 = .ok (.aload_n 1, 1) := by decide +kernel
theorem dL_law_738 : decode cL_law 738 = .ok (.invokevirtual 93, 3) := by decide +kernel
theorem dL_law_741 : decode cL_law 741 = .ok (.istore 16, 2) := by decide +kernel
theorem dL_law_743 : decode cL_law 743 = .ok (.aload_n 2, 1) := by decide +kernel
theorem dL_law_744 : decode cL_law 744 = .ok (.iload 8, 2) := by decide +kernel
theorem dL_law_746 : decode cL_law 746 = .ok (.iconst 1, 1) := by decide +kernel
theorem dL_law_747 : decode cL_law 747 = .ok (.isub, 1) := by decide +kernel
theorem dL_law_748 : decode cL_law 748 = .ok (.iload 14, 2) := by decide +kernel
theorem dL_law_750 : decode cL_law 750 = .ok (.isub, 1) := by decide +kernel
theorem dL_law_751 : decode cL_law 751 = .ok (.iload 7, 2) := by decide +kernel
theorem dL_law_753 : decode cL_law 753 = .ok (.iload 13, 2) := by decide +kernel
theorem dL_law_755 : decode cL_law 755 = .ok (.isub, 1) := by decide +kernel
theorem dL_law_756 : decode cL_law 756 = .ok (.invokevirtual 99, 3) := by decide +kernel
theorem dL_law_759 : decode cL_law 759 = .ok (.iload 15, 2) := by decide +kernel
theorem dL_law_761 : decode cL_law 761 = .ok (.if_icmp .ne 68, 3) := by decide +kernel
theorem dL_law_764 : decode cL_law 764 = .ok (.aload_n 2, 1) := by decide +kernel
theorem dL_law_765 : decode cL_law 765 = .ok (.invokevirtual 93, 3) := by decide +kernel
theorem dL_law_768 : decode cL_law 768 = .ok (.iload 16, 2) := by decide +kernel
theorem dL_law_770 : decode cL_law 770 = .ok (.if_icmp .ne 59, 3) := by decide +kernel
theorem dL_law_773 : decode cL_law 773 = .ok (.aload_n 1, 1) := by decide +kernel
theorem dL_law_774 : decode cL_law 774 = .ok (.iload 14, 2) := by decide +kernel
theorem dL_law_776 : decode cL_law 776 = .ok (.iload 13, 2) := by decide +kernel
theorem dL_law_778 : decode cL_law 778 = .ok (.invokevirtual 102, 3) := by decide +kernel
theorem dL_law_781 : decode cL_law 781 = .ok (.iconst 1, 1) := by decide +kernel
theorem dL_law_782 : decode cL_law 782 = .ok (.if_icmp .ne 47, 3) := by decide +kernel
theorem dL_law_785 : decode cL_law 785 = .ok (.aload_n 2, 1) := by decide +kernel
theorem dL_law_786 : decode cL_law 786 = .ok (.iload 8, 2) := by decide +kernel
theorem dL_law_788 : decode cL_law 788 = .ok (.iconst 1, 1) := by decide +kernel
theorem dL_law_789 : decode cL_law 789 = .ok (.isub, 1) := by decide +kernel
theorem dL_law_790 : decode cL_law 790 = .ok (.iload 14, 2) := by decide +kernel
theorem dL_law_792 : decode cL_law 792 = .ok (.isub, 1) := by decide +kernel
theorem dL_law_793 : decode cL_law 793 = .ok (.iload 7, 2) := by decide +kernel
theorem dL_law_795 : decode cL_law 795 = .ok (.iload 13, 2) := by decide +kernel
theorem dL_law_797 : decode cL_law 797 = .ok (.isub, 1) := by decide +kernel
theorem dL_law_798 : decode cL_law 798 = .ok (.invokevirtual 102, 3) := by decide +kernel
theorem dL_law_801 : decode cL_law 801 = .ok (.iconst 1, 1) := by decide +kernel
theorem dL_law_802 : decode cL_law 802 = .ok (.if_icmp .ne 27, 3) := by decide +kernel
theorem dL_law_805 : decode cL_law 805 = .ok (.aload_n 1, 1) := by decide +kernel
theorem dL_law_806 : decode cL_law 806 = .ok (.invokevirtual 105, 3) := by decide +kernel
theorem dL_law_809 : decode cL_law 809 = .ok (.aload_n 2, 1) := by decide +kernel
theorem dL_law_810 : decode cL_law 810 = .ok (.invokevirtual 105, 3) := by decide +kernel
theorem dL_law_813 : decode cL_law 813 = .ok (.lcmp, 1) := by decide +kernel
theorem dL_law_814 : decode cL_law 814 = .ok (.ifCond .ne 15, 3) := by decide +kernel
theorem dL_law_817 : decode cL_law 817 = .ok (.aload_n 1, 1) := by decide +kernel
theorem dL_law_818 : decode cL_law 818 = .ok (.invokevirtual 108, 3) := by decide +kernel
theorem dL_law_821 : decode cL_law 821 = .ok (.aload_n 2, 1) := by decide +kernel
theorem dL_law_822 : decode cL_law 822 = .ok (.invokevirtual 108, 3) := by decide +kernel
theorem dL_law_825 : decode cL_law 825 = .ok (.lcmp, 1) := by decide +kernel
theorem dL_law_826 : decode cL_law 826 = .ok (.ifCond .eq 5, 3) := by decide +kernel
theorem dL_law_829 : decode cL_law 829 = .ok (.iconst 0, 1) := by decide +kernel
theorem dL_law_830 : decode cL_law 830 = .ok (.ireturn, 1) := by decide +kernel
theorem dL_law_831 : decode cL_law 831 = .ok (.iinc 14 1, 3) := by decide +kernel
theorem dL_law_834 : decode cL_law 834 = .ok (.goto (-114), 3) := by decide +kernel
theorem dL_law_837 : decode cL_law 837 = .ok (.iconst 0, 1) := by decide +kernel
theorem dL_law_838 : decode cL_law 838 = .ok (.istore 14, 2) := by decide +kernel
theorem dL_law_840 : decode cL_law 840 = .ok (.iload 14, 2) := by decide +kernel
theorem dL_law_842 : decode cL_law 842 = .ok (.iload 6, 2) := by decide +kernel
theorem dL_law_844 : decode cL_law 844 = .ok (.if_icmp .ge 123, 3) := by decide +kernel
theorem dL_law_847 : decode cL_law 847 = .ok (.aload_n 1, 1) := by decide +kernel
theorem dL_law_848 : decode cL_law 848 = .ok (.iload 14, 2) := by decide +kernel
theorem dL_law_850 : decode cL_law 850 = .ok (.iload 13, 2) := by decide +kernel
theorem dL_law_852 : decode cL_law 852 = .ok (.invokevirtual 111, 3) := by decide +kernel
theorem dL_law_855 : decode cL_law 855 = .ok (.istore 15, 2) := by decide +kernel
theorem dL_law_857 : decode cL_law 857 = .ok (.aload_n 2, 1) := by decide +kernel
theorem dL_law_858 : decode cL_law 858 = .ok (.iload 14, 2) := by decide +kernel
theorem dL_law_860 : decode cL_law 860 = .ok (.iload 7, 2) := by decide +kernel
theorem dL_law_862 : decode cL_law 862 = .ok (.iload 13, 2) := by decide +kernel
theorem dL_law_864 : decode cL_law 864 = .ok (.isub, 1) := by decide +kernel
theorem dL_law_865 : decode cL_law 865 = .ok (.invokevirtual 111, 3) := by decide +kernel
theorem dL_law_868 : decode cL_law 868 = .ok (.istore 16, 2) := by decide +kernel
theorem dL_law_870 : decode cL_law 870 = .ok (.iconst 0, 1) := by decide +kernel
theorem dL_law_871 : decode cL_law 871 = .ok (.istore 17, 2) := by decide +kernel
theorem dL_law_873 : decode cL_law 873 = .ok (.iload 17, 2) := by decide +kernel
theorem dL_law_875 : decode cL_law 875 = .ok (.iload 8, 2) := by decide +kernel
theorem dL_law_877 : decode cL_law 877 = .ok (.if_icmp .ge 33, 3) := by decide +kernel
theorem dL_law_880 : decode cL_law 880 = .ok (.iload 15, 2) := by decide +kernel
theorem dL_law_882 : decode cL_law 882 = .ok (.iload 17, 2) := by decide +kernel
theorem dL_law_884 : decode cL_law 884 = .ok (.ishr, 1) := by decide +kernel
theorem dL_law_885 : decode cL_law 885 = .ok (.iconst 1, 1) := by decide +kernel
theorem dL_law_886 : decode cL_law 886 = .ok (.iand, 1) := by decide +kernel
theorem dL_law_887 : decode cL_law 887 = .ok (.iload 16, 2) := by decide +kernel
theorem dL_law_889 : decode cL_law 889 = .ok (.iload 8, 2) := by decide +kernel
theorem dL_law_891 : decode cL_law 891 = .ok (.iconst 1, 1) := by decide +kernel
theorem dL_law_892 : decode cL_law 892 = .ok (.isub, 1) := by decide +kernel
theorem dL_law_893 : decode cL_law 893 = .ok (.iload 17, 2) := by decide +kernel
theorem dL_law_895 : decode cL_law 895 = .ok (.isub, 1) := by decide +kernel
theorem dL_law_896 : decode cL_law 896 = .ok (.ishr, 1) := by decide +kernel
theorem dL_law_897 : decode cL_law 897 = .ok (.iconst 1, 1) := by decide +kernel
theorem dL_law_898 : decode cL_law 898 = .ok (.iand, 1) := by decide +kernel
theorem dL_law_899 : decode cL_law 899 = .ok (.if_icmp .eq 5, 3) := by decide +kernel
theorem dL_law_902 : decode cL_law 902 = .ok (.iconst 0, 1) := by decide +kernel
theorem dL_law_903 : decode cL_law 903 = .ok (.ireturn, 1) := by decide +kernel
theorem dL_law_904 : decode cL_law 904 = .ok (.iinc 17 1, 3) := by decide +kernel
theorem dL_law_907 : decode cL_law 907 = .ok (.goto (-34), 3) := by decide +kernel
theorem dL_law_910 : decode cL_law 910 = .ok (.aload_n 1, 1) := by decide +kernel
theorem dL_law_911 : decode cL_law 911 = .ok (.iload 14, 2) := by decide +kernel
theorem dL_law_913 : decode cL_law 913 = .ok (.iload 13, 2) := by decide +kernel
theorem dL_law_915 : decode cL_law 915 = .ok (.invokevirtual 114, 3) := by decide +kernel
theorem dL_law_918 : decode cL_law 918 = .ok (.ifCond .lt 41, 3) := by decide +kernel
theorem dL_law_921 : decode cL_law 921 = .ok (.aload_n 2, 1) := by decide +kernel
theorem dL_law_922 : decode cL_law 922 = .ok (.iload 14, 2) := by decide +kernel
theorem dL_law_924 : decode cL_law 924 = .ok (.iload 7, 2) := by decide +kernel
theorem dL_law_926 : decode cL_law 926 = .ok (.iload 13, 2) := by decide +kernel
theorem dL_law_928 : decode cL_law 928 = .ok (.isub, 1) := by decide +kernel
theorem dL_law_929 : decode cL_law 929 = .ok (.invokevirtual 114, 3) := by decide +kernel
theorem dL_law_932 : decode cL_law 932 = .ok (.ifCond .lt 27, 3) := by decide +kernel
theorem dL_law_935 : decode cL_law 935 = .ok (.aload_n 1, 1) := by decide +kernel
theorem dL_law_936 : decode cL_law 936 = .ok (.invokevirtual 105, 3) := by decide +kernel
theorem dL_law_939 : decode cL_law 939 = .ok (.aload_n 2, 1) := by decide +kernel
theorem dL_law_940 : decode cL_law 940 = .ok (.invokevirtual 105, 3) := by decide +kernel
theorem dL_law_943 : decode cL_law 943 = .ok (.lcmp, 1) := by decide +kernel
theorem dL_law_944 : decode cL_law 944 = .ok (.ifCond .ne 15, 3) := by decide +kernel
theorem dL_law_947 : decode cL_law 947 = .ok (.aload_n 1, 1) := by decide +kernel
theorem dL_law_948 : decode cL_law 948 = .ok (.invokevirtual 108, 3) := by decide +kernel
theorem dL_law_951 : decode cL_law 951 = .ok (.aload_n 2, 1) := by decide +kernel
theorem dL_law_952 : decode cL_law 952 = .ok (.invokevirtual 108, 3) := by decide +kernel
theorem dL_law_955 : decode cL_law 955 = .ok (.lcmp, 1) := by decide +kernel
theorem dL_law_956 : decode cL_law 956 = .ok (.ifCond .eq 5, 3) := by decide +kernel
theorem dL_law_959 : decode cL_law 959 = .ok (.iconst 0, 1) := by decide +kernel
theorem dL_law_960 : decode cL_law 960 = .ok (.ireturn, 1) := by decide +kernel
theorem dL_law_961 : decode cL_law 961 = .ok (.iinc 14 1, 3) := by decide +kernel
theorem dL_law_964 : decode cL_law 964 = .ok (.goto (-124), 3) := by decide +kernel
theorem dL_law_967 : decode cL_law 967 = .ok (.iinc 13 1, 3) := by decide +kernel
theorem dL_law_970 : decode cL_law 970 = .ok (.goto (-260), 3) := by decide +kernel
theorem dL_law_973 : decode cL_law 973 = .ok (.iconst 0, 1) := by decide +kernel
theorem dL_law_974 : decode cL_law 974 = .ok (.istore 13, 2) := by decide +kernel
theorem dL_law_976 : decode cL_law 976 = .ok (.iload 13, 2) := by decide +kernel
theorem dL_law_978 : decode cL_law 978 = .ok (.aload_n 3, 1) := by decide +kernel
theorem dL_law_979 : decode cL_law 979 = .ok (.iconst 1, 1) := by decide +kernel
theorem dL_law_980 : decode cL_law 980 = .ok (.iaload, 1) := by decide +kernel
theorem dL_law_981 : decode cL_law 981 = .ok (.if_icmp .ge 59, 3) := by decide +kernel
theorem dL_law_984 : decode cL_law 984 = .ok (.aload_n 1, 1) := by decide +kernel
theorem dL_law_985 : decode cL_law 985 = .ok (.iload 13, 2) := by decide +kernel
theorem dL_law_987 : decode cL_law 987 = .ok (.invokevirtual 117, 3) := by decide +kernel
theorem dL_law_990 : decode cL_law 990 = .ok (.istore 14, 2) := by decide +kernel
theorem dL_law_992 : decode cL_law 992 = .ok (.aload_n 1, 1) := by decide +kernel
theorem dL_law_993 : decode cL_law 993 = .ok (.invokevirtual 93, 3) := by decide +kernel
theorem dL_law_996 : decode cL_law 996 = .ok (.istore 15, 2) := by decide +kernel
theorem dL_law_998 : decode cL_law 998 = .ok (.aload_n 2, 1) := by decide +kernel
theorem dL_law_999 : decode cL_law 999 = .ok (.iload 13, 2) := by decide +kernel
theorem dL_law_1001 : decode cL_law 1001 = .ok (.invokevirtual 117, 3) := by decide +kernel
theorem dL_law_1004 : decode cL_law 1004 = .ok (.iload 14, 2) := by decide +kernel
theorem dL_law_1006 : decode cL_law 1006 = .ok (.if_icmp .ne 26, 3) := by decide +kernel
theorem dL_law_1009 : decode cL_law 1009 = .ok (.aload_n 2, 1) := by decide +kernel
theorem dL_law_1010 : decode cL_law 1010 = .ok (.invokevirtual 93, 3) := by decide +kernel
theorem dL_law_1013 : decode cL_law 1013 = .ok (.iload 15, 2) := by decide +kernel
theorem dL_law_1015 : decode cL_law 1015 = .ok (.if_icmp .ne 17, 3) := by decide +kernel
theorem dL_law_1018 : decode cL_law 1018 = .ok (.iload 15, 2) := by decide +kernel
theorem dL_law_1020 : decode cL_law 1020 = .ok (.iload 14, 2) := by decide +kernel
theorem dL_law_1022 : decode cL_law 1022 = .ok (.if_icmp .gt 10, 3) := by decide +kernel
theorem dL_law_1025 : decode cL_law 1025 = .ok (.iload 14, 2) := by decide +kernel
theorem dL_law_1027 : decode cL_law 1027 = .ok (.iload 7, 2) := by decide +kernel
theorem dL_law_1029 : decode cL_law 1029 = .ok (.if_icmp .le 5, 3) := by decide +kernel
theorem dL_law_1032 : decode cL_law 1032 = .ok (.iconst 0, 1) := by decide +kernel
theorem dL_law_1033 : decode cL_law 1033 = .ok (.ireturn, 1) := by decide +kernel
theorem dL_law_1034 : decode cL_law 1034 = .ok (.iinc 13 1, 3) := by decide +kernel
theorem dL_law_1037 : decode cL_law 1037 = .ok (.goto (-61), 3) := by decide +kernel
theorem dL_law_1040 : decode cL_law 1040 = .ok (.iconst 0, 1) := by decide +kernel
theorem dL_law_1041 : decode cL_law 1041 = .ok (.istore 13, 2) := by decide +kernel
theorem dL_law_1043 : decode cL_law 1043 = .ok (.iload 13, 2) := by decide +kernel
theorem dL_law_1045 : decode cL_law 1045 = .ok (.iload 6, 2) := by decide +kernel
theorem dL_law_1047 : decode cL_law 1047 = .ok (.if_icmp .ge 129, 3) := by decide +kernel
theorem dL_law_1050 : decode cL_law 1050 = .ok (.iconst 1, 1) := by decide +kernel
theorem dL_law_1051 : decode cL_law 1051 = .ok (.istore 14, 2) := by decide +kernel
theorem dL_law_1053 : decode cL_law 1053 = .ok (.iload 14, 2) := by decide +kernel
theorem dL_law_1055 : decode cL_law 1055 = .ok (.iload 7, 2) := by decide +kernel
theorem dL_law_1057 : decode cL_law 1057 = .ok (.if_icmp .gt 57, 3) := by decide +kernel
theorem dL_law_1060 : decode cL_law 1060 = .ok (.aload_n 1, 1) := by decide +kernel
theorem dL_law_1061 : decode cL_law 1061 = .ok (.iload 13, 2) := by decide +kernel
theorem dL_law_1063 : decode cL_law 1063 = .ok (.iload 14, 2) := by decide +kernel
theorem dL_law_1065 : decode cL_law 1065 = .ok (.invokevirtual 120, 3) := by decide +kernel
theorem dL_law_1068 : decode cL_law 1068 = .ok (.aload_n 2, 1) := by decide +kernel
theorem dL_law_1069 : decode cL_law 1069 = .ok (.iload 13, 2) := by decide +kernel
theorem dL_law_1071 : decode cL_law 1071 = .ok (.iload 14, 2) := by decide +kernel
theorem dL_law_1073 : decode cL_law 1073 = .ok (.invokevirtual 120, 3) := by decide +kernel
theorem dL_law_1076 : decode cL_law 1076 = .ok (.if_icmp .ne 30, 3) := by decide +kernel
theorem dL_law_1079 : decode cL_law 1079 = .ok (.iload 14, 2) := by decide +kernel
theorem dL_law_1081 : decode cL_law 1081 = .ok (.iconst 1, 1) := by decide +kernel
theorem dL_law_1082 : decode cL_law 1082 = .ok (.if_icmp .le 26, 3) := by decide +kernel
theorem dL_law_1085 : decode cL_law 1085 = .ok (.aload_n 1, 1) := by decide +kernel
theorem dL_law_1086 : decode cL_law 1086 = .ok (.iload 13, 2) := by decide +kernel
theorem dL_law_1088 : decode cL_law 1088 = .ok (.iload 14, 2) := by decide +kernel
theorem dL_law_1090 : decode cL_law 1090 = .ok (.invokevirtual 120, 3) := by decide +kernel
theorem dL_law_1093 : decode cL_law 1093 = .ok (.aload_n 1, 1) := by decide +kernel
theorem dL_law_1094 : decode cL_law 1094 = .ok (.iload 13, 2) := by decide +kernel
theorem dL_law_1096 : decode cL_law 1096 = .ok (.iload 14, 2) := by decide +kernel
theorem dL_law_1098 : decode cL_law 1098 = .ok (.iconst 1, 1) := by decide +kernel
theorem dL_law_1099 : decode cL_law 1099 = .ok (.isub, 1) := by decide +kernel
theorem dL_law_1100 : decode cL_law 1100 = .ok (.invokevirtual 120, 3) := by decide +kernel
theorem dL_law_1103 : decode cL_law 1103 = .ok (.if_icmp .le 5, 3) := by decide +kernel
theorem dL_law_1106 : decode cL_law 1106 = .ok (.iconst 0, 1) := by decide +kernel
theorem dL_law_1107 : decode cL_law 1107 = .ok (.ireturn, 1) := by decide +kernel
theorem dL_law_1108 : decode cL_law 1108 = .ok (.iinc 14 1, 3) := by decide +kernel
theorem dL_law_1111 : decode cL_law 1111 = .ok (.goto (-58), 3) := by decide +kernel
theorem dL_law_1114 : decode cL_law 1114 = .ok (.iconst 0, 1) := by decide +kernel
theorem dL_law_1115 : decode cL_law 1115 = .ok (.istore 14, 2) := by decide +kernel
theorem dL_law_1117 : decode cL_law 1117 = .ok (.iload 14, 2) := by decide +kernel
theorem dL_law_1119 : decode cL_law 1119 = .ok (.iload 13, 2) := by decide +kernel
theorem dL_law_1121 : decode cL_law 1121 = .ok (.if_icmp .ge 49, 3) := by decide +kernel
theorem dL_law_1124 : decode cL_law 1124 = .ok (.aload_n 1, 1) := by decide +kernel
theorem dL_law_1125 : decode cL_law 1125 = .ok (.iload 13, 2) := by decide +kernel
theorem dL_law_1127 : decode cL_law 1127 = .ok (.iload 14, 2) := by decide +kernel
theorem dL_law_1129 : decode cL_law 1129 = .ok (.invokevirtual 123, 3) := by decide +kernel
theorem dL_law_1132 : decode cL_law 1132 = .ok (.aload_n 2, 1) := by decide +kernel
theorem dL_law_1133 : decode cL_law 1133 = .ok (.iload 14, 2) := by decide +kernel
theorem dL_law_1135 : decode cL_law 1135 = .ok (.iload 13, 2) := by decide +kernel
theorem dL_law_1137 : decode cL_law 1137 = .ok (.invokevirtual 123, 3) := by decide +kernel
theorem dL_law_1140 : decode cL_law 1140 = .ok (.if_icmp .ne 22, 3) := by decide +kernel
theorem dL_law_1143 : decode cL_law 1143 = .ok (.aload_n 2, 1) := by decide +kernel
theorem dL_law_1144 : decode cL_law 1144 = .ok (.iload 14, 2) := by decide +kernel
theorem dL_law_1146 : decode cL_law 1146 = .ok (.iload 13, 2) := by decide +kernel
theorem dL_law_1148 : decode cL_law 1148 = .ok (.invokevirtual 123, 3) := by decide +kernel
theorem dL_law_1151 : decode cL_law 1151 = .ok (.aload_n 2, 1) := by decide +kernel
theorem dL_law_1152 : decode cL_law 1152 = .ok (.iload 13, 2) := by decide +kernel
theorem dL_law_1154 : decode cL_law 1154 = .ok (.iload 14, 2) := by decide +kernel
theorem dL_law_1156 : decode cL_law 1156 = .ok (.invokevirtual 123, 3) := by decide +kernel
theorem dL_law_1159 : decode cL_law 1159 = .ok (.if_icmp .eq 5, 3) := by decide +kernel
theorem dL_law_1162 : decode cL_law 1162 = .ok (.iconst 0, 1) := by decide +kernel
theorem dL_law_1163 : decode cL_law 1163 = .ok (.ireturn, 1) := by decide +kernel
theorem dL_law_1164 : decode cL_law 1164 = .ok (.iinc 14 1, 3) := by decide +kernel
theorem dL_law_1167 : decode cL_law 1167 = .ok (.goto (-50), 3) := by decide +kernel
theorem dL_law_1170 : decode cL_law 1170 = .ok (.iinc 13 1, 3) := by decide +kernel
theorem dL_law_1173 : decode cL_law 1173 = .ok (.goto (-130), 3) := by decide +kernel
theorem dL_law_1176 : decode cL_law 1176 = .ok (.iconst 0, 1) := by decide +kernel
theorem dL_law_1177 : decode cL_law 1177 = .ok (.istore 13, 2) := by decide +kernel
theorem dL_law_1179 : decode cL_law 1179 = .ok (.iload 13, 2) := by decide +kernel
theorem dL_law_1181 : decode cL_law 1181 = .ok (.iload 9, 2) := by decide +kernel
theorem dL_law_1183 : decode cL_law 1183 = .ok (.if_icmp .ge 91, 3) := by decide +kernel
theorem dL_law_1186 : decode cL_law 1186 = .ok (.aload_n 1, 1) := by decide +kernel
theorem dL_law_1187 : decode cL_law 1187 = .ok (.iload 13, 2) := by decide +kernel
theorem dL_law_1189 : decode cL_law 1189 = .ok (.invokevirtual 126, 3) := by decide +kernel
theorem dL_law_1192 : decode cL_law 1192 = .ok (.istore 14, 2) := by decide +kernel
theorem dL_law_1194 : decode cL_law 1194 = .ok (.aload_n 1, 1) := by decide +kernel
theorem dL_law_1195 : decode cL_law 1195 = .ok (.invokevirtual 93, 3) := by decide +kernel
theorem dL_law_1198 : decode cL_law 1198 = .ok (.istore 15, 2) := by decide +kernel
theorem dL_law_1200 : decode cL_law 1200 = .ok (.aload_n 2, 1) := by decide +kernel
theorem dL_law_1201 : decode cL_law 1201 = .ok (.iload 13, 2) := by decide +kernel
theorem dL_law_1203 : decode cL_law 1203 = .ok (.invokevirtual 126, 3) := by decide +kernel
theorem dL_law_1206 : decode cL_law 1206 = .ok (.iload 14, 2) := by decide +kernel
theorem dL_law_1208 : decode cL_law 1208 = .ok (.if_icmp .ne 17, 3) := by decide +kernel
theorem dL_law_1211 : decode cL_law 1211 = .ok (.iload 14, 2) := by decide +kernel
theorem dL_law_1213 : decode cL_law 1213 = .ok (.ifCond .lt 14, 3) := by decide +kernel
theorem dL_law_1216 : decode cL_law 1216 = .ok (.aload_n 2, 1) := by decide +kernel
theorem dL_law_1217 : decode cL_law 1217 = .ok (.invokevirtual 93, 3) := by decide +kernel
theorem dL_law_1220 : decode cL_law 1220 = .ok (.iload 15, 2) := by decide +kernel
theorem dL_law_1222 : decode cL_law 1222 = .ok (.if_icmp .eq 5, 3) := by decide +kernel
theorem dL_law_1225 : decode cL_law 1225 = .ok (.iconst 0, 1) := by decide +kernel
theorem dL_law_1226 : decode cL_law 1226 = .ok (.ireturn, 1) := by decide +kernel
theorem dL_law_1227 : decode cL_law 1227 = .ok (.aload_n 1, 1) := by decide +kernel
theorem dL_law_1228 : decode cL_law 1228 = .ok (.iload 13, 2) := by decide +kernel
theorem dL_law_1230 : decode cL_law 1230 = .ok (.invokevirtual 129, 3) := by decide +kernel
theorem dL_law_1233 : decode cL_law 1233 = .ok (.istore 14, 2) := by decide +kernel
theorem dL_law_1235 : decode cL_law 1235 = .ok (.aload_n 1, 1) := by decide +kernel
theorem dL_law_1236 : decode cL_law 1236 = .ok (.invokevirtual 93, 3) := by decide +kernel
theorem dL_law_1239 : decode cL_law 1239 = .ok (.istore 15, 2) := by decide +kernel
theorem dL_law_1241 : decode cL_law 1241 = .ok (.aload_n 2, 1) := by decide +kernel
theorem dL_law_1242 : decode cL_law 1242 = .ok (.iload 13, 2) := by decide +kernel
theorem dL_law_1244 : decode cL_law 1244 = .ok (.invokevirtual 129, 3) := by decide +kernel
theorem dL_law_1247 : decode cL_law 1247 = .ok (.iload 14, 2) := by decide +kernel
theorem dL_law_1249 : decode cL_law 1249 = .ok (.if_icmp .ne 17, 3) := by decide +kernel
theorem dL_law_1252 : decode cL_law 1252 = .ok (.iload 14, 2) := by decide +kernel
theorem dL_law_1254 : decode cL_law 1254 = .ok (.ifCond .lt 14, 3) := by decide +kernel
theorem dL_law_1257 : decode cL_law 1257 = .ok (.aload_n 2, 1) := by decide +kernel
theorem dL_law_1258 : decode cL_law 1258 = .ok (.invokevirtual 93, 3) := by decide +kernel
theorem dL_law_1261 : decode cL_law 1261 = .ok (.iload 15, 2) := by decide +kernel
theorem dL_law_1263 : decode cL_law 1263 = .ok (.if_icmp .eq 5, 3) := by decide +kernel
theorem dL_law_1266 : decode cL_law 1266 = .ok (.iconst 0, 1) := by decide +kernel
theorem dL_law_1267 : decode cL_law 1267 = .ok (.ireturn, 1) := by decide +kernel
theorem dL_law_1268 : decode cL_law 1268 = .ok (.iinc 13 1, 3) := by decide +kernel
theorem dL_law_1271 : decode cL_law 1271 = .ok (.goto (-92), 3) := by decide +kernel
theorem dL_law_1274 : decode cL_law 1274 = .ok (.aload_n 1, 1) := by decide +kernel
theorem dL_law_1275 : decode cL_law 1275 = .ok (.invokevirtual 132, 3) := by decide +kernel
theorem dL_law_1278 : decode cL_law 1278 = .ok (.aload_n 2, 1) := by decide +kernel
theorem dL_law_1279 : decode cL_law 1279 = .ok (.invokevirtual 132, 3) := by decide +kernel
theorem dL_law_1282 : decode cL_law 1282 = .ok (.if_icmp .ne 24, 3) := by decide +kernel
theorem dL_law_1285 : decode cL_law 1285 = .ok (.aload_n 1, 1) := by decide +kernel
theorem dL_law_1286 : decode cL_law 1286 = .ok (.iconst 0, 1) := by decide +kernel
theorem dL_law_1287 : decode cL_law 1287 = .ok (.invokevirtual 135, 3) := by decide +kernel
theorem dL_law_1290 : decode cL_law 1290 = .ok (.ifCond .lt 16, 3) := by decide +kernel
theorem dL_law_1293 : decode cL_law 1293 = .ok (.aload_n 2, 1) := by decide +kernel
theorem dL_law_1294 : decode cL_law 1294 = .ok (.invokevirtual 138, 3) := by decide +kernel
theorem dL_law_1297 : decode cL_law 1297 = .ok (.bipush (-4), 2) := by decide +kernel
theorem dL_law_1299 : decode cL_law 1299 = .ok (.if_icmp .ne 7, 3) := by decide +kernel
theorem dL_law_1302 : decode cL_law 1302 = .ok (.iconst 1, 1) := by decide +kernel
theorem dL_law_1303 : decode cL_law 1303 = .ok (.goto 4, 3) := by decide +kernel
theorem dL_law_1306 : decode cL_law 1306 = .ok (.iconst 0, 1) := by decide +kernel
theorem dL_law_1307 : decode cL_law 1307 = .ok (.ireturn, 1) := by decide +kernel
