theorem dL_cell_0 : decode cL_cell 0 = .ok (.iload_n 1, 1) := by decide +kernel
theorem dL_cell_1 : decode cL_cell 1 = .ok (.aload_n 0, 1) := by decide +kernel
theorem dL_cell_2 : decode cL_cell 2 = .ok (.arraylength, 1) := by decide +kernel
theorem dL_cell_3 : decode cL_cell 3 = .ok (.if_icmp .ge 9, 3) := by decide +kernel
theorem dL_cell_6 : decode cL_cell 6 = .ok (.aload_n 0, 1) := by decide +kernel
theorem dL_cell_7 : decode cL_cell 7 = .ok (.iload_n 1, 1) := by decide +kernel
theorem dL_cell_8 : decode cL_cell 8 = .ok (.iaload, 1) := by decide +kernel
theorem dL_cell_9 : decode cL_cell 9 = .ok (.goto 10, 3) := by decide +kernel
theorem dL_cell_12 : decode cL_cell 12 = .ok (.ldc 7, 2) := by decide +kernel
theorem dL_cell_14 : decode cL_cell 14 = .ok (.iload_n 1, 1) := by decide +kernel
theorem dL_cell_15 : decode cL_cell 15 = .ok (.imul, 1) := by decide +kernel
theorem dL_cell_16 : decode cL_cell 16 = .ok (.bipush 17, 2) := by decide +kernel
theorem dL_cell_18 : decode cL_cell 18 = .ok (.iadd, 1) := by decide +kernel
theorem dL_cell_19 : decode cL_cell 19 = .ok (.ireturn, 1) := by decide +kernel
theorem dL_mail_0 : decode cL_mail 0 = .ok (.iconst (-1), 1) := by decide +kernel
theorem dL_mail_1 : decode cL_mail 1 = .ok (.istore_n 2, 1) := by decide +kernel
theorem dL_mail_2 : decode cL_mail 2 = .ok (.iconst 0, 1) := by decide +kernel
theorem dL_mail_3 : decode cL_mail 3 = .ok (.istore_n 3, 1) := by decide +kernel
theorem dL_mail_4 : decode cL_mail 4 = .ok (.aload_n 0, 1) := by decide +kernel
theorem dL_mail_5 : decode cL_mail 5 = .ok (.iload_n 1, 1) := by decide +kernel
theorem dL_mail_6 : decode cL_mail 6 = .ok (.invokestatic 85, 3) := by decide +kernel
theorem dL_mail_9 : decode cL_mail 9 = .ok (.istore 4, 2) := by decide +kernel
theorem dL_mail_11 : decode cL_mail 11 = .ok (.iconst 0, 1) := by decide +kernel
theorem dL_mail_12 : decode cL_mail 12 = .ok (.istore 5, 2) := by decide +kernel
theorem dL_mail_14 : decode cL_mail 14 = .ok (.iload 5, 2) := by decide +kernel
theorem dL_mail_16 : decode cL_mail 16 = .ok (.iload 4, 2) := by decide +kernel
theorem dL_mail_18 : decode cL_mail 18 = .ok (.if_icmp .ge 231, 3) := by decide +kernel
theorem dL_mail_21 : decode cL_mail 21 = .ok (.aload_n 0, 1) := by decide +kernel
theorem dL_mail_22 : decode cL_mail 22 = .ok (.iload_n 1, 1) := by decide +kernel
theorem dL_mail_23 : decode cL_mail 23 = .ok (.iload 5, 2) := by decide +kernel
theorem dL_mail_25 : decode cL_mail 25 = .ok (.invokestatic 90, 3) := by decide +kernel
theorem dL_mail_28 : decode cL_mail 28 = .ok (.istore 6, 2) := by decide +kernel
theorem dL_mail_30 : decode cL_mail 30 = .ok (.aload_n 0, 1) := by decide +kernel
theorem dL_mail_31 : decode cL_mail 31 = .ok (.iload_n 1, 1) := by decide +kernel
theorem dL_mail_32 : decode cL_mail 32 = .ok (.iload 5, 2) := by decide +kernel
theorem dL_mail_34 : decode cL_mail 34 = .ok (.invokestatic 93, 3) := by decide +kernel
theorem dL_mail_37 : decode cL_mail 37 = .ok (.istore 7, 2) := by decide +kernel
theorem dL_mail_39 : decode cL_mail 39 = .ok (.aload_n 0, 1) := by decide +kernel
theorem dL_mail_40 : decode cL_mail 40 = .ok (.iload_n 1, 1) := by decide +kernel
theorem dL_mail_41 : decode cL_mail 41 = .ok (.iload 5, 2) := by decide +kernel
theorem dL_mail_43 : decode cL_mail 43 = .ok (.invokestatic 95, 3) := by decide +kernel
theorem dL_mail_46 : decode cL_mail 46 = .ok (.istore 8, 2) := by decide +kernel
theorem dL_mail_48 : decode cL_mail 48 = .ok (.aload_n 0, 1) := by decide +kernel
theorem dL_mail_49 : decode cL_mail 49 = .ok (.iload_n 1, 1) := by decide +kernel
theorem dL_mail_50 : decode cL_mail 50 = .ok (.iload 5, 2) := by decide +kernel
theorem dL_mail_52 : decode cL_mail 52 = .ok (.invokestatic 97, 3) := by decide +kernel
theorem dL_mail_55 : decode cL_mail 55 = .ok (.istore 9, 2) := by decide +kernel
theorem dL_mail_57 : decode cL_mail 57 = .ok (.iload 7, 2) := by decide +kernel
theorem dL_mail_59 : decode cL_mail 59 = .ok (.ifCond .lt 7, 3) := by decide +kernel
theorem dL_mail_62 : decode cL_mail 62 = .ok (.iconst 1, 1) := by decide +kernel
theorem dL_mail_63 : decode cL_mail 63 = .ok (.goto 4, 3) := by decide +kernel
theorem dL_mail_66 : decode cL_mail 66 = .ok (.iconst 0, 1) := by decide +kernel
theorem dL_mail_67 : decode cL_mail 67 = .ok (.iload 6, 2) := by decide +kernel
theorem dL_mail_69 : decode cL_mail 69 = .ok (.bipush 113, 2) := by decide +kernel
theorem dL_mail_71 : decode cL_mail 71 = .ok (.if_icmp .ne 7, 3) := by decide +kernel
theorem dL_mail_74 : decode cL_mail 74 = .ok (.iconst 1, 1) := by decide +kernel
theorem dL_mail_75 : decode cL_mail 75 = .ok (.goto 4, 3) := by decide +kernel
theorem dL_mail_78 : decode cL_mail 78 = .ok (.iconst 0, 1) := by decide +kernel
theorem dL_mail_79 : decode cL_mail 79 = .ok (.if_icmp .ne 21, 3) := by decide +kernel
theorem dL_mail_82 : decode cL_mail 82 = .ok (.aload_n 0, 1) := by decide +kernel
theorem dL_mail_83 : decode cL_mail 83 = .ok (.iload 8, 2) := by decide +kernel
theorem dL_mail_85 : decode cL_mail 85 = .ok (.iload 9, 2) := by decide +kernel
theorem dL_mail_87 : decode cL_mail 87 = .ok (.invokestatic 99, 3) := by decide +kernel
theorem dL_mail_90 : decode cL_mail 90 = .ok (.aload_n 0, 1) := by decide +kernel
theorem dL_mail_91 : decode cL_mail 91 = .ok (.iload_n 1, 1) := by decide +kernel
theorem dL_mail_92 : decode cL_mail 92 = .ok (.iload 5, 2) := by decide +kernel
theorem dL_mail_94 : decode cL_mail 94 = .ok (.invokestatic 99, 3) := by decide +kernel
theorem dL_mail_97 : decode cL_mail 97 = .ok (.if_icmp .eq 5, 3) := by decide +kernel
theorem dL_mail_100 : decode cL_mail 100 = .ok (.iconst 0, 1) := by decide +kernel
theorem dL_mail_101 : decode cL_mail 101 = .ok (.ireturn, 1) := by decide +kernel
theorem dL_mail_102 : decode cL_mail 102 = .ok (.iload 7, 2) := by decide +kernel
theorem dL_mail_104 : decode cL_mail 104 = .ok (.ifCond .lt 53, 3) := by decide +kernel
theorem dL_mail_107 : decode cL_mail 107 = .ok (.aload_n 0, 1) := by decide +kernel
theorem dL_mail_108 : decode cL_mail 108 = .ok (.iload_n 1, 1) := by decide +kernel
theorem dL_mail_109 : decode cL_mail 109 = .ok (.invokestatic 101, 3) := by decide +kernel
theorem dL_mail_112 : decode cL_mail 112 = .ok (.istore 10, 2) := by decide +kernel
theorem dL_mail_114 : decode cL_mail 114 = .ok (.iload 7, 2) := by decide +kernel
theorem dL_mail_116 : decode cL_mail 116 = .ok (.iload_n 2, 1) := by decide +kernel
theorem dL_mail_117 : decode cL_mail 117 = .ok (.if_icmp .le 29, 3) := by decide +kernel
theorem dL_mail_120 : decode cL_mail 120 = .ok (.iload 8, 2) := by decide +kernel
theorem dL_mail_122 : decode cL_mail 122 = .ok (.aload_n 0, 1) := by decide +kernel
theorem dL_mail_123 : decode cL_mail 123 = .ok (.iload 10, 2) := by decide +kernel
theorem dL_mail_125 : decode cL_mail 125 = .ok (.iload 7, 2) := by decide +kernel
theorem dL_mail_127 : decode cL_mail 127 = .ok (.invokestatic 95, 3) := by decide +kernel
theorem dL_mail_130 : decode cL_mail 130 = .ok (.if_icmp .ne 16, 3) := by decide +kernel
theorem dL_mail_133 : decode cL_mail 133 = .ok (.iload 9, 2) := by decide +kernel
theorem dL_mail_135 : decode cL_mail 135 = .ok (.aload_n 0, 1) := by decide +kernel
theorem dL_mail_136 : decode cL_mail 136 = .ok (.iload 10, 2) := by decide +kernel
theorem dL_mail_138 : decode cL_mail 138 = .ok (.iload 7, 2) := by decide +kernel
theorem dL_mail_140 : decode cL_mail 140 = .ok (.invokestatic 97, 3) := by decide +kernel
theorem dL_mail_143 : decode cL_mail 143 = .ok (.if_icmp .eq 5, 3) := by decide +kernel
theorem dL_mail_146 : decode cL_mail 146 = .ok (.iconst 0, 1) := by decide +kernel
theorem dL_mail_147 : decode cL_mail 147 = .ok (.ireturn, 1) := by decide +kernel
theorem dL_mail_148 : decode cL_mail 148 = .ok (.iload 7, 2) := by decide +kernel
theorem dL_mail_150 : decode cL_mail 150 = .ok (.istore_n 2, 1) := by decide +kernel
theorem dL_mail_151 : decode cL_mail 151 = .ok (.iinc 3 1, 3) := by decide +kernel
theorem dL_mail_154 : decode cL_mail 154 = .ok (.goto 18, 3) := by decide +kernel
theorem dL_mail_157 : decode cL_mail 157 = .ok (.iload 8, 2) := by decide +kernel
theorem dL_mail_159 : decode cL_mail 159 = .ok (.iload_n 1, 1) := by decide +kernel
theorem dL_mail_160 : decode cL_mail 160 = .ok (.if_icmp .ne 10, 3) := by decide +kernel
theorem dL_mail_163 : decode cL_mail 163 = .ok (.iload 9, 2) := by decide +kernel
theorem dL_mail_165 : decode cL_mail 165 = .ok (.iload 5, 2) := by decide +kernel
theorem dL_mail_167 : decode cL_mail 167 = .ok (.if_icmp .eq 5, 3) := by decide +kernel
theorem dL_mail_170 : decode cL_mail 170 = .ok (.iconst 0, 1) := by decide +kernel
theorem dL_mail_171 : decode cL_mail 171 = .ok (.ireturn, 1) := by decide +kernel
theorem dL_mail_172 : decode cL_mail 172 = .ok (.iload 6, 2) := by decide +kernel
theorem dL_mail_174 : decode cL_mail 174 = .ok (.bipush 115, 2) := by decide +kernel
theorem dL_mail_176 : decode cL_mail 176 = .ok (.if_icmp .ne 7, 3) := by decide +kernel
theorem dL_mail_179 : decode cL_mail 179 = .ok (.iconst 1, 1) := by decide +kernel
theorem dL_mail_180 : decode cL_mail 180 = .ok (.goto 4, 3) := by decide +kernel
theorem dL_mail_183 : decode cL_mail 183 = .ok (.iconst 0, 1) := by decide +kernel
theorem dL_mail_184 : decode cL_mail 184 = .ok (.iload 5, 2) := by decide +kernel
theorem dL_mail_186 : decode cL_mail 186 = .ok (.iload 4, 2) := by decide +kernel
theorem dL_mail_188 : decode cL_mail 188 = .ok (.aload_n 0, 1) := by decide +kernel
theorem dL_mail_189 : decode cL_mail 189 = .ok (.iload_n 1, 1) := by decide +kernel
theorem dL_mail_190 : decode cL_mail 190 = .ok (.invokestatic 103, 3) := by decide +kernel
theorem dL_mail_193 : decode cL_mail 193 = .ok (.isub, 1) := by decide +kernel
theorem dL_mail_194 : decode cL_mail 194 = .ok (.if_icmp .lt 7, 3) := by decide +kernel
theorem dL_mail_197 : decode cL_mail 197 = .ok (.iconst 1, 1) := by decide +kernel
theorem dL_mail_198 : decode cL_mail 198 = .ok (.goto 4, 3) := by decide +kernel
theorem dL_mail_201 : decode cL_mail 201 = .ok (.iconst 0, 1) := by decide +kernel
theorem dL_mail_202 : decode cL_mail 202 = .ok (.if_icmp .ne 25, 3) := by decide +kernel
theorem dL_mail_205 : decode cL_mail 205 = .ok (.iload 6, 2) := by decide +kernel
theorem dL_mail_207 : decode cL_mail 207 = .ok (.bipush 114, 2) := by decide +kernel
theorem dL_mail_209 : decode cL_mail 209 = .ok (.if_icmp .eq 10, 3) := by decide +kernel
theorem dL_mail_212 : decode cL_mail 212 = .ok (.iload 6, 2) := by decide +kernel
theorem dL_mail_214 : decode cL_mail 214 = .ok (.bipush 100, 2) := by decide +kernel
theorem dL_mail_216 : decode cL_mail 216 = .ok (.if_icmp .ne 13, 3) := by decide +kernel
theorem dL_mail_219 : decode cL_mail 219 = .ok (.aload_n 0, 1) := by decide +kernel
theorem dL_mail_220 : decode cL_mail 220 = .ok (.iload_n 1, 1) := by decide +kernel
theorem dL_mail_221 : decode cL_mail 221 = .ok (.invokestatic 101, 3) := by decide +kernel
theorem dL_mail_224 : decode cL_mail 224 = .ok (.ifCond .lt 5, 3) := by decide +kernel
theorem dL_mail_227 : decode cL_mail 227 = .ok (.iconst 0, 1) := by decide +kernel
theorem dL_mail_228 : decode cL_mail 228 = .ok (.ireturn, 1) := by decide +kernel
theorem dL_mail_229 : decode cL_mail 229 = .ok (.aload_n 0, 1) := by decide +kernel
theorem dL_mail_230 : decode cL_mail 230 = .ok (.iload_n 1, 1) := by decide +kernel
theorem dL_mail_231 : decode cL_mail 231 = .ok (.iload 5, 2) := by decide +kernel
theorem dL_mail_233 : decode cL_mail 233 = .ok (.iload 6, 2) := by decide +kernel
theorem dL_mail_235 : decode cL_mail 235 = .ok (.invokestatic 105, 3) := by decide +kernel
theorem dL_mail_238 : decode cL_mail 238 = .ok (.ifCond .ne 5, 3) := by decide +kernel
theorem dL_mail_241 : decode cL_mail 241 = .ok (.iconst 0, 1) := by decide +kernel
theorem dL_mail_242 : decode cL_mail 242 = .ok (.ireturn, 1) := by decide +kernel
theorem dL_mail_243 : decode cL_mail 243 = .ok (.iinc 5 1, 3) := by decide +kernel
theorem dL_mail_246 : decode cL_mail 246 = .ok (.goto (-232), 3) := by decide +kernel
theorem dL_mail_249 : decode cL_mail 249 = .ok (.iload_n 3, 1) := by decide +kernel
theorem dL_mail_250 : decode cL_mail 250 = .ok (.aload_n 0, 1) := by decide +kernel
theorem dL_mail_251 : decode cL_mail 251 = .ok (.iload_n 1, 1) := by decide +kernel
theorem dL_mail_252 : decode cL_mail 252 = .ok (.invokestatic 109, 3) := by decide +kernel
theorem dL_mail_255 : decode cL_mail 255 = .ok (.if_icmp .ne 29, 3) := by decide +kernel
theorem dL_mail_258 : decode cL_mail 258 = .ok (.iload_n 3, 1) := by decide +kernel
theorem dL_mail_259 : decode cL_mail 259 = .ok (.aload_n 0, 1) := by decide +kernel
theorem dL_mail_260 : decode cL_mail 260 = .ok (.iload_n 1, 1) := by decide +kernel
theorem dL_mail_261 : decode cL_mail 261 = .ok (.invokestatic 111, 3) := by decide +kernel
theorem dL_mail_264 : decode cL_mail 264 = .ok (.if_icmp .ne 20, 3) := by decide +kernel
theorem dL_mail_267 : decode cL_mail 267 = .ok (.aload_n 0, 1) := by decide +kernel
theorem dL_mail_268 : decode cL_mail 268 = .ok (.iload_n 1, 1) := by decide +kernel
theorem dL_mail_269 : decode cL_mail 269 = .ok (.iload 4, 2) := by decide +kernel
theorem dL_mail_271 : decode cL_mail 271 = .ok (.invokestatic 93, 3) := by decide +kernel
theorem dL_mail_274 : decode cL_mail 274 = .ok (.sipush (-1001), 3) := by decide +kernel
theorem dL_mail_277 : decode cL_mail 277 = .ok (.if_icmp .ne 7, 3) := by decide +kernel
theorem dL_mail_280 : decode cL_mail 280 = .ok (.iconst 1, 1) := by decide +kernel
theorem dL_mail_281 : decode cL_mail 281 = .ok (.goto 4, 3) := by decide +kernel
theorem dL_mail_284 : decode cL_mail 284 = .ok (.iconst 0, 1) := by decide +kernel
theorem dL_mail_285 : decode cL_mail 285 = .ok (.ireturn, 1) := by decide +kernel
theorem dL_talks_0 : decode cL_talks 0 = .ok (.aload_n 0, 1) := by decide +kernel
theorem dL_talks_1 : decode cL_talks 1 = .ok (.iload_n 1, 1) := by decide +kernel
theorem dL_talks_2 : decode cL_talks 2 = .ok (.iload_n 2, 1) := by decide +kernel
theorem dL_talks_3 : decode cL_talks 3 = .ok (.invokestatic 113, 3) := by decide +kernel
theorem dL_talks_6 : decode cL_talks 6 = .ok (.istore 4, 2) := by decide +kernel
theorem dL_talks_8 : decode cL_talks 8 = .ok (.aload_n 0, 1) := by decide +kernel
theorem dL_talks_9 : decode cL_talks 9 = .ok (.iload_n 1, 1) := by decide +kernel
theorem dL_talks_10 : decode cL_talks 10 = .ok (.iload_n 2, 1) := by decide +kernel
theorem dL_talks_11 : decode cL_talks 11 = .ok (.invokestatic 115, 3) := by decide +kernel
theorem dL_talks_14 : decode cL_talks 14 = .ok (.istore 5, 2) := by decide +kernel
theorem dL_talks_16 : decode cL_talks 16 = .ok (.iload_n 3, 1) := by decide +kernel
theorem dL_talks_17 : decode cL_talks 17 = .ok (.bipush 110, 2) := by decide +kernel
theorem dL_talks_19 : decode cL_talks 19 = .ok (.if_icmp .eq 9, 3) := by decide +kernel
theorem dL_talks_22 : decode cL_talks 22 = .ok (.iload_n 3, 1) := by decide +kernel
theorem dL_talks_23 : decode cL_talks 23 = .ok (.bipush 114, 2) := by decide +kernel
theorem dL_talks_25 : decode cL_talks 25 = .ok (.if_icmp .ne 7, 3) := by decide +kernel
theorem dL_talks_28 : decode cL_talks 28 = .ok (.iconst 1, 1) := by decide +kernel
theorem dL_talks_29 : decode cL_talks 29 = .ok (.goto 4, 3) := by decide +kernel
theorem dL_talks_32 : decode cL_talks 32 = .ok (.iconst 0, 1) := by decide +kernel
theorem dL_talks_33 : decode cL_talks 33 = .ok (.istore 6, 2) := by decide +kernel
theorem dL_talks_35 : decode cL_talks 35 = .ok (.iload 4, 2) := by decide +kernel
theorem dL_talks_37 : decode cL_talks 37 = .ok (.sipush (-1002), 3) := by decide +kernel
theorem dL_talks_40 : decode cL_talks 40 = .ok (.if_icmp .ne 7, 3) := by decide +kernel
theorem dL_talks_43 : decode cL_talks 43 = .ok (.iconst 1, 1) := by decide +kernel
theorem dL_talks_44 : decode cL_talks 44 = .ok (.goto 4, 3) := by decide +kernel
theorem dL_talks_47 : decode cL_talks 47 = .ok (.iconst 0, 1) := by decide +kernel
theorem dL_talks_48 : decode cL_talks 48 = .ok (.iload_n 3, 1) := by decide +kernel
theorem dL_talks_49 : decode cL_talks 49 = .ok (.bipush 110, 2) := by decide +kernel
theorem dL_talks_51 : decode cL_talks 51 = .ok (.if_icmp .eq 7, 3) := by decide +kernel
theorem dL_talks_54 : decode cL_talks 54 = .ok (.iconst 1, 1) := by decide +kernel
theorem dL_talks_55 : decode cL_talks 55 = .ok (.goto 4, 3) := by decide +kernel
theorem dL_talks_58 : decode cL_talks 58 = .ok (.iconst 0, 1) := by decide +kernel
theorem dL_talks_59 : decode cL_talks 59 = .ok (.if_icmp .ne 63, 3) := by decide +kernel
theorem dL_talks_62 : decode cL_talks 62 = .ok (.iload 5, 2) := by decide +kernel
theorem dL_talks_64 : decode cL_talks 64 = .ok (.ifCond .ge 7, 3) := by decide +kernel
theorem dL_talks_67 : decode cL_talks 67 = .ok (.iconst 1, 1) := by decide +kernel
theorem dL_talks_68 : decode cL_talks 68 = .ok (.goto 4, 3) := by decide +kernel
theorem dL_talks_71 : decode cL_talks 71 = .ok (.iconst 0, 1) := by decide +kernel
theorem dL_talks_72 : decode cL_talks 72 = .ok (.iload 4, 2) := by decide +kernel
theorem dL_talks_74 : decode cL_talks 74 = .ok (.ifCond .ge 7, 3) := by decide +kernel
theorem dL_talks_77 : decode cL_talks 77 = .ok (.iconst 1, 1) := by decide +kernel
theorem dL_talks_78 : decode cL_talks 78 = .ok (.goto 4, 3) := by decide +kernel
theorem dL_talks_81 : decode cL_talks 81 = .ok (.iconst 0, 1) := by decide +kernel
theorem dL_talks_82 : decode cL_talks 82 = .ok (.if_icmp .ne 40, 3) := by decide +kernel
theorem dL_talks_85 : decode cL_talks 85 = .ok (.aload_n 0, 1) := by decide +kernel
theorem dL_talks_86 : decode cL_talks 86 = .ok (.iload_n 1, 1) := by decide +kernel
theorem dL_talks_87 : decode cL_talks 87 = .ok (.iload_n 2, 1) := by decide +kernel
theorem dL_talks_88 : decode cL_talks 88 = .ok (.invokestatic 117, 3) := by decide +kernel
theorem dL_talks_91 : decode cL_talks 91 = .ok (.iconst 1, 1) := by decide +kernel
theorem dL_talks_92 : decode cL_talks 92 = .ok (.if_icmp .ge 7, 3) := by decide +kernel
theorem dL_talks_95 : decode cL_talks 95 = .ok (.iconst 1, 1) := by decide +kernel
theorem dL_talks_96 : decode cL_talks 96 = .ok (.goto 4, 3) := by decide +kernel
theorem dL_talks_99 : decode cL_talks 99 = .ok (.iconst 0, 1) := by decide +kernel
theorem dL_talks_100 : decode cL_talks 100 = .ok (.iload 6, 2) := by decide +kernel
theorem dL_talks_102 : decode cL_talks 102 = .ok (.if_icmp .eq 20, 3) := by decide +kernel
theorem dL_talks_105 : decode cL_talks 105 = .ok (.iload 6, 2) := by decide +kernel
theorem dL_talks_107 : decode cL_talks 107 = .ok (.ifCond .ne 17, 3) := by decide +kernel
theorem dL_talks_110 : decode cL_talks 110 = .ok (.aload_n 0, 1) := by decide +kernel
theorem dL_talks_111 : decode cL_talks 111 = .ok (.iload_n 1, 1) := by decide +kernel
theorem dL_talks_112 : decode cL_talks 112 = .ok (.iload_n 2, 1) := by decide +kernel
theorem dL_talks_113 : decode cL_talks 113 = .ok (.invokestatic 117, 3) := by decide +kernel
theorem dL_talks_116 : decode cL_talks 116 = .ok (.sipush (-1002), 3) := by decide +kernel
theorem dL_talks_119 : decode cL_talks 119 = .ok (.if_icmp .eq 5, 3) := by decide +kernel
theorem dL_talks_122 : decode cL_talks 122 = .ok (.iconst 0, 1) := by decide +kernel
theorem dL_talks_123 : decode cL_talks 123 = .ok (.ireturn, 1) := by decide +kernel
theorem dL_talks_124 : decode cL_talks 124 = .ok (.iconst 0, 1) := by decide +kernel
theorem dL_talks_125 : decode cL_talks 125 = .ok (.istore 7, 2) := by decide +kernel
theorem dL_talks_127 : decode cL_talks 127 = .ok (.iconst 0, 1) := by decide +kernel
theorem dL_talks_128 : decode cL_talks 128 = .ok (.istore 8, 2) := by decide +kernel
theorem dL_talks_130 : decode cL_talks 130 = .ok (.iload 8, 2) := by decide +kernel
theorem dL_talks_132 : decode cL_talks 132 = .ok (.iload_n 2, 1) := by decide +kernel
theorem dL_talks_133 : decode cL_talks 133 = .ok (.if_icmp .ge 31, 3) := by decide +kernel
theorem dL_talks_136 : decode cL_talks 136 = .ok (.iload 7, 2) := by decide +kernel
theorem dL_talks_138 : decode cL_talks 138 = .ok (.aload_n 0, 1) := by decide +kernel
theorem dL_talks_139 : decode cL_talks 139 = .ok (.iload_n 1, 1) := by decide +kernel
theorem dL_talks_140 : decode cL_talks 140 = .ok (.iload 8, 2) := by decide +kernel
theorem dL_talks_142 : decode cL_talks 142 = .ok (.invokestatic 90, 3) := by decide +kernel
theorem dL_talks_145 : decode cL_talks 145 = .ok (.bipush 113, 2) := by decide +kernel
theorem dL_talks_147 : decode cL_talks 147 = .ok (.if_icmp .ne 7, 3) := by decide +kernel
theorem dL_talks_150 : decode cL_talks 150 = .ok (.iconst 1, 1) := by decide +kernel
theorem dL_talks_151 : decode cL_talks 151 = .ok (.goto 4, 3) := by decide +kernel
theorem dL_talks_154 : decode cL_talks 154 = .ok (.iconst 0, 1) := by decide +kernel
theorem dL_talks_155 : decode cL_talks 155 = .ok (.ior, 1) := by decide +kernel
theorem dL_talks_156 : decode cL_talks 156 = .ok (.istore 7, 2) := by decide +kernel
theorem dL_talks_158 : decode cL_talks 158 = .ok (.iinc 8 1, 3) := by decide +kernel
theorem dL_talks_161 : decode cL_talks 161 = .ok (.goto (-31), 3) := by decide +kernel
theorem dL_talks_164 : decode cL_talks 164 = .ok (.iload_n 3, 1) := by decide +kernel
theorem dL_talks_165 : decode cL_talks 165 = .ok (.bipush 110, 2) := by decide +kernel
theorem dL_talks_167 : decode cL_talks 167 = .ok (.if_icmp .ne 23, 3) := by decide +kernel
theorem dL_talks_170 : decode cL_talks 170 = .ok (.iload 4, 2) := by decide +kernel
theorem dL_talks_172 : decode cL_talks 172 = .ok (.sipush (-1003), 3) := by decide +kernel
theorem dL_talks_175 : decode cL_talks 175 = .ok (.if_icmp .ne 7, 3) := by decide +kernel
theorem dL_talks_178 : decode cL_talks 178 = .ok (.iconst 1, 1) := by decide +kernel
theorem dL_talks_179 : decode cL_talks 179 = .ok (.goto 4, 3) := by decide +kernel
theorem dL_talks_182 : decode cL_talks 182 = .ok (.iconst 0, 1) := by decide +kernel
theorem dL_talks_183 : decode cL_talks 183 = .ok (.iload 7, 2) := by decide +kernel
theorem dL_talks_185 : decode cL_talks 185 = .ok (.if_icmp .ne 5, 3) := by decide +kernel
theorem dL_talks_188 : decode cL_talks 188 = .ok (.iconst 0, 1) := by decide +kernel
theorem dL_talks_189 : decode cL_talks 189 = .ok (.ireturn, 1) := by decide +kernel
theorem dL_talks_190 : decode cL_talks 190 = .ok (.iload 4, 2) := by decide +kernel
theorem dL_talks_192 : decode cL_talks 192 = .ok (.ifCond .lt 25, 3) := by decide +kernel
theorem dL_talks_195 : decode cL_talks 195 = .ok (.aload_n 0, 1) := by decide +kernel
theorem dL_talks_196 : decode cL_talks 196 = .ok (.iload 4, 2) := by decide +kernel
theorem dL_talks_198 : decode cL_talks 198 = .ok (.iload 5, 2) := by decide +kernel
theorem dL_talks_200 : decode cL_talks 200 = .ok (.invokestatic 119, 3) := by decide +kernel
theorem dL_talks_203 : decode cL_talks 203 = .ok (.ifCond .le 18, 3) := by decide +kernel
theorem dL_talks_206 : decode cL_talks 206 = .ok (.aload_n 0, 1) := by decide +kernel
theorem dL_talks_207 : decode cL_talks 207 = .ok (.iload 4, 2) := by decide +kernel
theorem dL_talks_209 : decode cL_talks 209 = .ok (.iload 5, 2) := by decide +kernel
theorem dL_talks_211 : decode cL_talks 211 = .ok (.invokestatic 99, 3) := by decide +kernel
theorem dL_talks_214 : decode cL_talks 214 = .ok (.ifCond .le 7, 3) := by decide +kernel
theorem dL_talks_217 : decode cL_talks 217 = .ok (.iconst 1, 1) := by decide +kernel
theorem dL_talks_218 : decode cL_talks 218 = .ok (.goto 4, 3) := by decide +kernel
theorem dL_talks_221 : decode cL_talks 221 = .ok (.iconst 0, 1) := by decide +kernel
theorem dL_talks_222 : decode cL_talks 222 = .ok (.ireturn, 1) := by decide +kernel
theorem dL_all_0 : decode cL_all 0 = .ok (.iconst 0, 1) := by decide +kernel
theorem dL_all_1 : decode cL_all 1 = .ok (.istore_n 1, 1) := by decide +kernel
theorem dL_all_2 : decode cL_all 2 = .ok (.iconst 0, 1) := by decide +kernel
theorem dL_all_3 : decode cL_all 3 = .ok (.istore_n 2, 1) := by decide +kernel
theorem dL_all_4 : decode cL_all 4 = .ok (.iconst 0, 1) := by decide +kernel
theorem dL_all_5 : decode cL_all 5 = .ok (.istore_n 3, 1) := by decide +kernel
theorem dL_all_6 : decode cL_all 6 = .ok (.iconst 0, 1) := by decide +kernel
theorem dL_all_7 : decode cL_all 7 = .ok (.istore 4, 2) := by decide +kernel
theorem dL_all_9 : decode cL_all 9 = .ok (.iconst 0, 1) := by decide +kernel
theorem dL_all_10 : decode cL_all 10 = .ok (.istore 5, 2) := by decide +kernel
theorem dL_all_12 : decode cL_all 12 = .ok (.iconst 0, 1) := by decide +kernel
theorem dL_all_13 : decode cL_all 13 = .ok (.istore 6, 2) := by decide +kernel
theorem dL_all_15 : decode cL_all 15 = .ok (.iload 6, 2) := by decide +kernel
theorem dL_all_17 : decode cL_all 17 = .ok (.aload_n 0, 1) := by decide +kernel
theorem dL_all_18 : decode cL_all 18 = .ok (.invokevirtual 121, 3) := by decide +kernel
theorem dL_all_21 : decode cL_all 21 = .ok (.if_icmp .ge 208, 3) := by decide +kernel
theorem dL_all_24 : decode cL_all 24 = .ok (.aload_n 0, 1) := by decide +kernel
theorem dL_all_25 : decode cL_all 25 = .ok (.iload 6, 2) := by decide +kernel
theorem dL_all_27 : decode cL_all 27 = .ok (.invokestatic 125, 3) := by decide +kernel
theorem dL_all_30 : decode cL_all 30 = .ok (.ifCond .ne 5, 3) := by decide +kernel
theorem dL_all_33 : decode cL_all 33 = .ok (.iconst 0, 1) := by decide +kernel
theorem dL_all_34 : decode cL_all 34 = .ok (.ireturn, 1) := by decide +kernel
theorem dL_all_35 : decode cL_all 35 = .ok (.aload_n 0, 1) := by decide +kernel
theorem dL_all_36 : decode cL_all 36 = .ok (.iload 6, 2) := by decide +kernel
theorem dL_all_38 : decode cL_all 38 = .ok (.invokestatic 129, 3) := by decide +kernel
theorem dL_all_41 : decode cL_all 41 = .ok (.istore 7, 2) := by decide +kernel
theorem dL_all_43 : decode cL_all 43 = .ok (.iload 7, 2) := by decide +kernel
theorem dL_all_45 : decode cL_all 45 = .ok (.aload_n 0, 1) := by decide +kernel
theorem dL_all_46 : decode cL_all 46 = .ok (.iload 6, 2) := by decide +kernel
theorem dL_all_48 : decode cL_all 48 = .ok (.invokestatic 131, 3) := by decide +kernel
theorem dL_all_51 : decode cL_all 51 = .ok (.if_icmp .ne 39, 3) := by decide +kernel
theorem dL_all_54 : decode cL_all 54 = .ok (.aload_n 0, 1) := by decide +kernel
theorem dL_all_55 : decode cL_all 55 = .ok (.iload 7, 2) := by decide +kernel
theorem dL_all_57 : decode cL_all 57 = .ok (.invokestatic 129, 3) := by decide +kernel
theorem dL_all_60 : decode cL_all 60 = .ok (.iload 7, 2) := by decide +kernel
theorem dL_all_62 : decode cL_all 62 = .ok (.if_icmp .ne 28, 3) := by decide +kernel
theorem dL_all_65 : decode cL_all 65 = .ok (.aload_n 0, 1) := by decide +kernel
theorem dL_all_66 : decode cL_all 66 = .ok (.iload 7, 2) := by decide +kernel
theorem dL_all_68 : decode cL_all 68 = .ok (.invokestatic 133, 3) := by decide +kernel
theorem dL_all_71 : decode cL_all 71 = .ok (.aload_n 0, 1) := by decide +kernel
theorem dL_all_72 : decode cL_all 72 = .ok (.iload 6, 2) := by decide +kernel
theorem dL_all_74 : decode cL_all 74 = .ok (.invokestatic 133, 3) := by decide +kernel
theorem dL_all_77 : decode cL_all 77 = .ok (.if_icmp .ne 13, 3) := by decide +kernel
theorem dL_all_80 : decode cL_all 80 = .ok (.aload_n 0, 1) := by decide +kernel
theorem dL_all_81 : decode cL_all 81 = .ok (.iload 6, 2) := by decide +kernel
theorem dL_all_83 : decode cL_all 83 = .ok (.invokestatic 133, 3) := by decide +kernel
theorem dL_all_86 : decode cL_all 86 = .ok (.iconst 1, 1) := by decide +kernel
theorem dL_all_87 : decode cL_all 87 = .ok (.if_icmp .ge 5, 3) := by decide +kernel
theorem dL_all_90 : decode cL_all 90 = .ok (.iconst 0, 1) := by decide +kernel
theorem dL_all_91 : decode cL_all 91 = .ok (.ireturn, 1) := by decide +kernel
theorem dL_all_92 : decode cL_all 92 = .ok (.iload_n 1, 1) := by decide +kernel
theorem dL_all_93 : decode cL_all 93 = .ok (.iload 7, 2) := by decide +kernel
theorem dL_all_95 : decode cL_all 95 = .ok (.iload 6, 2) := by decide +kernel
theorem dL_all_97 : decode cL_all 97 = .ok (.if_icmp .ne 7, 3) := by decide +kernel
theorem dL_all_100 : decode cL_all 100 = .ok (.iconst 1, 1) := by decide +kernel
theorem dL_all_101 : decode cL_all 101 = .ok (.goto 4, 3) := by decide +kernel
theorem dL_all_104 : decode cL_all 104 = .ok (.iconst 0, 1) := by decide +kernel
theorem dL_all_105 : decode cL_all 105 = .ok (.iadd, 1) := by decide +kernel
theorem dL_all_106 : decode cL_all 106 = .ok (.istore_n 1, 1) := by decide +kernel
theorem dL_all_107 : decode cL_all 107 = .ok (.aload_n 0, 1) := by decide +kernel
theorem dL_all_108 : decode cL_all 108 = .ok (.iload 6, 2) := by decide +kernel
theorem dL_all_110 : decode cL_all 110 = .ok (.invokestatic 101, 3) := by decide +kernel
theorem dL_all_113 : decode cL_all 113 = .ok (.istore 8, 2) := by decide +kernel
theorem dL_all_115 : decode cL_all 115 = .ok (.iload 7, 2) := by decide +kernel
theorem dL_all_117 : decode cL_all 117 = .ok (.iload 6, 2) := by decide +kernel
theorem dL_all_119 : decode cL_all 119 = .ok (.if_icmp .eq 21, 3) := by decide +kernel
theorem dL_all_122 : decode cL_all 122 = .ok (.iload 8, 2) := by decide +kernel
theorem dL_all_124 : decode cL_all 124 = .ok (.ifCond .lt 14, 3) := by decide +kernel
theorem dL_all_127 : decode cL_all 127 = .ok (.aload_n 0, 1) := by decide +kernel
theorem dL_all_128 : decode cL_all 128 = .ok (.iload 8, 2) := by decide +kernel
theorem dL_all_130 : decode cL_all 130 = .ok (.invokestatic 129, 3) := by decide +kernel
theorem dL_all_133 : decode cL_all 133 = .ok (.iload 7, 2) := by decide +kernel
theorem dL_all_135 : decode cL_all 135 = .ok (.if_icmp .eq 5, 3) := by decide +kernel
theorem dL_all_138 : decode cL_all 138 = .ok (.iconst 0, 1) := by decide +kernel
theorem dL_all_139 : decode cL_all 139 = .ok (.ireturn, 1) := by decide +kernel
theorem dL_all_140 : decode cL_all 140 = .ok (.iconst 0, 1) := by decide +kernel
theorem dL_all_141 : decode cL_all 141 = .ok (.istore 9, 2) := by decide +kernel
theorem dL_all_143 : decode cL_all 143 = .ok (.iload 9, 2) := by decide +kernel
theorem dL_all_145 : decode cL_all 145 = .ok (.aload_n 0, 1) := by decide +kernel
theorem dL_all_146 : decode cL_all 146 = .ok (.iload 6, 2) := by decide +kernel
theorem dL_all_148 : decode cL_all 148 = .ok (.invokestatic 85, 3) := by decide +kernel
theorem dL_all_151 : decode cL_all 151 = .ok (.if_icmp .ge 72, 3) := by decide +kernel
theorem dL_all_154 : decode cL_all 154 = .ok (.aload_n 0, 1) := by decide +kernel
theorem dL_all_155 : decode cL_all 155 = .ok (.iload 6, 2) := by decide +kernel
theorem dL_all_157 : decode cL_all 157 = .ok (.iload 9, 2) := by decide +kernel
theorem dL_all_159 : decode cL_all 159 = .ok (.invokestatic 90, 3) := by decide +kernel
theorem dL_all_162 : decode cL_all 162 = .ok (.istore 10, 2) := by decide +kernel
theorem dL_all_164 : decode cL_all 164 = .ok (.iinc 5 1, 3) := by decide +kernel
theorem dL_all_167 : decode cL_all 167 = .ok (.iload_n 2, 1) := by decide +kernel
theorem dL_all_168 : decode cL_all 168 = .ok (.iload 10, 2) := by decide +kernel
theorem dL_all_170 : decode cL_all 170 = .ok (.bipush 110, 2) := by decide +kernel
theorem dL_all_172 : decode cL_all 172 = .ok (.if_icmp .eq 10, 3) := by decide +kernel
theorem dL_all_175 : decode cL_all 175 = .ok (.iload 10, 2) := by decide +kernel
theorem dL_all_177 : decode cL_all 177 = .ok (.bipush 114, 2) := by decide +kernel
theorem dL_all_179 : decode cL_all 179 = .ok (.if_icmp .ne 7, 3) := by decide +kernel
theorem dL_all_182 : decode cL_all 182 = .ok (.iconst 1, 1) := by decide +kernel
theorem dL_all_183 : decode cL_all 183 = .ok (.goto 4, 3) := by decide +kernel
theorem dL_all_186 : decode cL_all 186 = .ok (.iconst 0, 1) := by decide +kernel
theorem dL_all_187 : decode cL_all 187 = .ok (.iadd, 1) := by decide +kernel
theorem dL_all_188 : decode cL_all 188 = .ok (.istore_n 2, 1) := by decide +kernel
theorem dL_all_189 : decode cL_all 189 = .ok (.iload_n 3, 1) := by decide +kernel
theorem dL_all_190 : decode cL_all 190 = .ok (.iconst 0, 1) := by decide +kernel
theorem dL_all_191 : decode cL_all 191 = .ok (.aload_n 0, 1) := by decide +kernel
theorem dL_all_192 : decode cL_all 192 = .ok (.iload 6, 2) := by decide +kernel
theorem dL_all_194 : decode cL_all 194 = .ok (.iload 9, 2) := by decide +kernel
theorem dL_all_196 : decode cL_all 196 = .ok (.invokestatic 117, 3) := by decide +kernel
theorem dL_all_199 : decode cL_all 199 = .ok (.invokestatic 135, 3) := by decide +kernel
theorem dL_all_202 : decode cL_all 202 = .ok (.iadd, 1) := by decide +kernel
theorem dL_all_203 : decode cL_all 203 = .ok (.istore_n 3, 1) := by decide +kernel
theorem dL_all_204 : decode cL_all 204 = .ok (.iload 4, 2) := by decide +kernel
theorem dL_all_206 : decode cL_all 206 = .ok (.aload_n 0, 1) := by decide +kernel
theorem dL_all_207 : decode cL_all 207 = .ok (.iload 6, 2) := by decide +kernel
theorem dL_all_209 : decode cL_all 209 = .ok (.iload 9, 2) := by decide +kernel
theorem dL_all_211 : decode cL_all 211 = .ok (.invokestatic 119, 3) := by decide +kernel
theorem dL_all_214 : decode cL_all 214 = .ok (.iadd, 1) := by decide +kernel
theorem dL_all_215 : decode cL_all 215 = .ok (.istore 4, 2) := by decide +kernel
theorem dL_all_217 : decode cL_all 217 = .ok (.iinc 9 1, 3) := by decide +kernel
theorem dL_all_220 : decode cL_all 220 = .ok (.goto (-77), 3) := by decide +kernel
theorem dL_all_223 : decode cL_all 223 = .ok (.iinc 6 1, 3) := by decide +kernel
theorem dL_all_226 : decode cL_all 226 = .ok (.goto (-211), 3) := by decide +kernel
theorem dL_all_229 : decode cL_all 229 = .ok (.iload_n 1, 1) := by decide +kernel
theorem dL_all_230 : decode cL_all 230 = .ok (.aload_n 0, 1) := by decide +kernel
theorem dL_all_231 : decode cL_all 231 = .ok (.invokevirtual 140, 3) := by decide +kernel
theorem dL_all_234 : decode cL_all 234 = .ok (.if_icmp .ne 35, 3) := by decide +kernel
theorem dL_all_237 : decode cL_all 237 = .ok (.iload_n 2, 1) := by decide +kernel
theorem dL_all_238 : decode cL_all 238 = .ok (.aload_n 0, 1) := by decide +kernel
theorem dL_all_239 : decode cL_all 239 = .ok (.invokevirtual 143, 3) := by decide +kernel
theorem dL_all_242 : decode cL_all 242 = .ok (.if_icmp .ne 27, 3) := by decide +kernel
theorem dL_all_245 : decode cL_all 245 = .ok (.iload_n 2, 1) := by decide +kernel
theorem dL_all_246 : decode cL_all 246 = .ok (.aload_n 0, 1) := by decide +kernel
theorem dL_all_247 : decode cL_all 247 = .ok (.invokevirtual 146, 3) := by decide +kernel
theorem dL_all_250 : decode cL_all 250 = .ok (.if_icmp .ne 19, 3) := by decide +kernel
theorem dL_all_253 : decode cL_all 253 = .ok (.iload_n 3, 1) := by decide +kernel
theorem dL_all_254 : decode cL_all 254 = .ok (.iload 5, 2) := by decide +kernel
theorem dL_all_256 : decode cL_all 256 = .ok (.if_icmp .gt 13, 3) := by decide +kernel
theorem dL_all_259 : decode cL_all 259 = .ok (.iload 4, 2) := by decide +kernel
theorem dL_all_261 : decode cL_all 261 = .ok (.iload_n 2, 1) := by decide +kernel
theorem dL_all_262 : decode cL_all 262 = .ok (.if_icmp .gt 7, 3) := by decide +kernel
theorem dL_all_265 : decode cL_all 265 = .ok (.iconst 1, 1) := by decide +kernel
theorem dL_all_266 : decode cL_all 266 = .ok (.goto 4, 3) := by decide +kernel
theorem dL_all_269 : decode cL_all 269 = .ok (.iconst 0, 1) := by decide +kernel
theorem dL_all_270 : decode cL_all 270 = .ok (.ireturn, 1) := by decide +kernel
theorem dL_law_0 : decode cL_law 0 = .ok (.new 9, 3) := by decide +kernel
theorem dL_law_3 : decode cL_law 3 = .ok (.dup, 1) := by decide +kernel
theorem dL_law_4 : decode cL_law 4 = .ok (.invokespecial 149, 3) := by decide +kernel
theorem dL_law_7 : decode cL_law 7 = .ok (.astore_n 1, 1) := by decide +kernel
theorem dL_law_8 : decode cL_law 8 = .ok (.iconst 0, 1) := by decide +kernel
theorem dL_law_9 : decode cL_law 9 = .ok (.istore_n 2, 1) := by decide +kernel
theorem dL_law_10 : decode cL_law 10 = .ok (.iload_n 2, 1) := by decide +kernel
theorem dL_law_11 : decode cL_law 11 = .ok (.bipush 26, 2) := by decide +kernel
theorem dL_law_13 : decode cL_law 13 = .ok (.if_icmp .ge 341, 3) := by decide +kernel
theorem dL_law_16 : decode cL_law 16 = .ok (.aload_n 0, 1) := by decide +kernel
theorem dL_law_17 : decode cL_law 17 = .ok (.iload_n 2, 1) := by decide +kernel
theorem dL_law_18 : decode cL_law 18 = .ok (.invokestatic 150, 3) := by decide +kernel
theorem dL_law_21 : decode cL_law 21 = .ok (.iconst 1, 1) := by decide +kernel
theorem dL_law_22 : decode cL_law 22 = .ok (.iushr, 1) := by decide +kernel
theorem dL_law_23 : decode cL_law 23 = .ok (.istore_n 3, 1) := by decide +kernel
theorem dL_law_24 : decode cL_law 24 = .ok (.aload_n 1, 1) := by decide +kernel
theorem dL_law_25 : decode cL_law 25 = .ok (.invokevirtual 121, 3) := by decide +kernel
theorem dL_law_28 : decode cL_law 28 = .ok (.ifCond .le 15, 3) := by decide +kernel
theorem dL_law_31 : decode cL_law 31 = .ok (.iload_n 3, 1) := by decide +kernel
theorem dL_law_32 : decode cL_law 32 = .ok (.bipush 8, 2) := by decide +kernel
theorem dL_law_34 : decode cL_law 34 = .ok (.idiv, 1) := by decide +kernel
theorem dL_law_35 : decode cL_law 35 = .ok (.aload_n 1, 1) := by decide +kernel
theorem dL_law_36 : decode cL_law 36 = .ok (.invokevirtual 121, 3) := by decide +kernel
theorem dL_law_39 : decode cL_law 39 = .ok (.irem, 1) := by decide +kernel
theorem dL_law_40 : decode cL_law 40 = .ok (.goto 4, 3) := by decide +kernel
theorem dL_law_43 : decode cL_law 43 = .ok (.iconst 0, 1) := by decide +kernel
theorem dL_law_44 : decode cL_law 44 = .ok (.istore 4, 2) := by decide +kernel
theorem dL_law_46 : decode cL_law 46 = .ok (.iload_n 3, 1) := by decide +kernel
theorem dL_law_47 : decode cL_law 47 = .ok (.bipush 8, 2) := by decide +kernel
theorem dL_law_49 : decode cL_law 49 = .ok (.irem, 1) := by decide +kernel
theorem dL_law_50 : decode cL_law 50 = .ok (.iconst 2, 1) := by decide +kernel
theorem dL_law_51 : decode cL_law 51 = .ok (.if_icmp .lt 10, 3) := by decide +kernel
theorem dL_law_54 : decode cL_law 54 = .ok (.aload_n 1, 1) := by decide +kernel
theorem dL_law_55 : decode cL_law 55 = .ok (.invokevirtual 121, 3) := by decide +kernel
theorem dL_law_58 : decode cL_law 58 = .ok (.ifCond .ne 88, 3) := by decide +kernel
theorem dL_law_61 : decode cL_law 61 = .ok (.iconst 1, 1) := by decide +kernel
theorem dL_law_62 : decode cL_law 62 = .ok (.iload_n 3, 1) := by decide +kernel
theorem dL_law_63 : decode cL_law 63 = .ok (.bipush 8, 2) := by decide +kernel
theorem dL_law_65 : decode cL_law 65 = .ok (.idiv, 1) := by decide +kernel
theorem dL_law_66 : decode cL_law 66 = .ok (.bipush 12, 2) := by decide +kernel
theorem dL_law_68 : decode cL_law 68 = .ok (.irem, 1) := by decide +kernel
theorem dL_law_69 : decode cL_law 69 = .ok (.iadd, 1) := by decide +kernel
theorem dL_law_70 : decode cL_law 70 = .ok (.istore 5, 2) := by decide +kernel
theorem dL_law_72 : decode cL_law 72 = .ok (.aload_n 1, 1) := by decide +kernel
theorem dL_law_73 : decode cL_law 73 = .ok (.iload 5, 2) := by decide +kernel
theorem dL_law_75 : decode cL_law 75 = .ok (.iload_n 3, 1) := by decide +kernel
theorem dL_law_76 : decode cL_law 76 = .ok (.sipush 128, 3) := by decide +kernel
theorem dL_law_79 : decode cL_law 79 = .ok (.idiv, 1) := by decide +kernel
theorem dL_law_80 : decode cL_law 80 = .ok (.iconst 2, 1) := by decide +kernel
theorem dL_law_81 : decode cL_law 81 = .ok (.irem, 1) := by decide +kernel
theorem dL_law_82 : decode cL_law 82 = .ok (.iload_n 3, 1) := by decide +kernel
theorem dL_law_83 : decode cL_law 83 = .ok (.sipush 256, 3) := by decide +kernel
theorem dL_law_86 : decode cL_law 86 = .ok (.idiv, 1) := by decide +kernel
theorem dL_law_87 : decode cL_law 87 = .ok (.iconst 2, 1) := by decide +kernel
theorem dL_law_88 : decode cL_law 88 = .ok (.irem, 1) := by decide +kernel
theorem dL_law_89 : decode cL_law 89 = .ok (.iload_n 3, 1) := by decide +kernel
theorem dL_law_90 : decode cL_law 90 = .ok (.sipush 512, 3) := by decide +kernel
theorem dL_law_93 : decode cL_law 93 = .ok (.idiv, 1) := by decide +kernel
theorem dL_law_94 : decode cL_law 94 = .ok (.iconst 3, 1) := by decide +kernel
theorem dL_law_95 : decode cL_law 95 = .ok (.irem, 1) := by decide +kernel
theorem dL_law_96 : decode cL_law 96 = .ok (.ifCond .ne 7, 3) := by decide +kernel
theorem dL_law_99 : decode cL_law 99 = .ok (.iconst 0, 1) := by decide +kernel
theorem dL_law_100 : decode cL_law 100 = .ok (.goto 11, 3) := by decide +kernel
theorem dL_law_103 : decode cL_law 103 = .ok (.iload_n 3, 1) := by decide +kernel
theorem dL_law_104 : decode cL_law 104 = .ok (.sipush 2048, 3) := by decide +kernel
theorem dL_law_107 : decode cL_law 107 = .ok (.idiv, 1) := by decide +kernel
theorem dL_law_108 : decode cL_law 108 = .ok (.iload 5, 2) := by decide +kernel
theorem dL_law_110 : decode cL_law 110 = .ok (.irem, 1) := by decide +kernel
theorem dL_law_111 : decode cL_law 111 = .ok (.invokestatic 154, 3) := by decide +kernel
theorem dL_law_114 : decode cL_law 114 = .ok (.istore 6, 2) := by decide +kernel
theorem dL_law_116 : decode cL_law 116 = .ok (.iload 6, 2) := by decide +kernel
theorem dL_law_118 : decode cL_law 118 = .ok (.ifCond .lt 25, 3) := by decide +kernel
theorem dL_law_121 : decode cL_law 121 = .ok (.iload 6, 2) := by decide +kernel
theorem dL_law_123 : decode cL_law 123 = .ok (.aload_n 1, 1) := by decide +kernel
theorem dL_law_124 : decode cL_law 124 = .ok (.invokevirtual 121, 3) := by decide +kernel
theorem dL_law_127 : decode cL_law 127 = .ok (.iconst 1, 1) := by decide +kernel
theorem dL_law_128 : decode cL_law 128 = .ok (.isub, 1) := by decide +kernel
theorem dL_law_129 : decode cL_law 129 = .ok (.if_icmp .ne 12, 3) := by decide +kernel
theorem dL_law_132 : decode cL_law 132 = .ok (.aload_n 1, 1) := by decide +kernel
theorem dL_law_133 : decode cL_law 133 = .ok (.iload 6, 2) := by decide +kernel
theorem dL_law_135 : decode cL_law 135 = .ok (.invokestatic 85, 3) := by decide +kernel
theorem dL_law_138 : decode cL_law 138 = .ok (.ifCond .eq 5, 3) := by decide +kernel
theorem dL_law_141 : decode cL_law 141 = .ok (.iconst 0, 1) := by decide +kernel
theorem dL_law_142 : decode cL_law 142 = .ok (.ireturn, 1) := by decide +kernel
theorem dL_law_143 : decode cL_law 143 = .ok (.goto 196, 3) := by decide +kernel
theorem dL_law_146 : decode cL_law 146 = .ok (.iload_n 3, 1) := by decide +kernel
theorem dL_law_147 : decode cL_law 147 = .ok (.bipush 8, 2) := by decide +kernel
theorem dL_law_149 : decode cL_law 149 = .ok (.irem, 1) := by decide +kernel
theorem dL_law_150 : decode cL_law 150 = .ok (.bipush 7, 2) := by decide +kernel
theorem dL_law_152 : decode cL_law 152 = .ok (.if_icmp .ge 153, 3) := by decide +kernel
theorem dL_law_155 : decode cL_law 155 = .ok (.aload_n 1, 1) := by decide +kernel
theorem dL_law_156 : decode cL_law 156 = .ok (.iload 4, 2) := by decide +kernel
theorem dL_law_158 : decode cL_law 158 = .ok (.invokestatic 101, 3) := by decide +kernel
theorem dL_law_161 : decode cL_law 161 = .ok (.istore 5, 2) := by decide +kernel
theorem dL_law_163 : decode cL_law 163 = .ok (.iload 5, 2) := by decide +kernel
theorem dL_law_165 : decode cL_law 165 = .ok (.ifCond .lt 12, 3) := by decide +kernel
theorem dL_law_168 : decode cL_law 168 = .ok (.aload_n 1, 1) := by decide +kernel
theorem dL_law_169 : decode cL_law 169 = .ok (.iload 5, 2) := by decide +kernel
theorem dL_law_171 : decode cL_law 171 = .ok (.invokestatic 85, 3) := by decide +kernel
theorem dL_law_174 : decode cL_law 174 = .ok (.goto 4, 3) := by decide +kernel
theorem dL_law_177 : decode cL_law 177 = .ok (.iconst 0, 1) := by decide +kernel
theorem dL_law_178 : decode cL_law 178 = .ok (.istore 6, 2) := by decide +kernel
theorem dL_law_180 : decode cL_law 180 = .ok (.iconst 0, 1) := by decide +kernel
theorem dL_law_181 : decode cL_law 181 = .ok (.istore 7, 2) := by decide +kernel
theorem dL_law_183 : decode cL_law 183 = .ok (.iload 7, 2) := by decide +kernel
theorem dL_law_185 : decode cL_law 185 = .ok (.iconst 3, 1) := by decide +kernel
theorem dL_law_186 : decode cL_law 186 = .ok (.if_icmp .ge 116, 3) := by decide +kernel
theorem dL_law_189 : decode cL_law 189 = .ok (.iload_n 3, 1) := by decide +kernel
theorem dL_law_190 : decode cL_law 190 = .ok (.bipush 6, 2) := by decide +kernel
theorem dL_law_192 : decode cL_law 192 = .ok (.iload 7, 2) := by decide +kernel
theorem dL_law_194 : decode cL_law 194 = .ok (.imul, 1) := by decide +kernel
theorem dL_law_195 : decode cL_law 195 = .ok (.iconst 3, 1) := by decide +kernel
theorem dL_law_196 : decode cL_law 196 = .ok (.iadd, 1) := by decide +kernel
theorem dL_law_197 : decode cL_law 197 = .ok (.iushr, 1) := by decide +kernel
theorem dL_law_198 : decode cL_law 198 = .ok (.istore 8, 2) := by decide +kernel
theorem dL_law_200 : decode cL_law 200 = .ok (.aload_n 1, 1) := by decide +kernel
theorem dL_law_201 : decode cL_law 201 = .ok (.iload 4, 2) := by decide +kernel
theorem dL_law_203 : decode cL_law 203 = .ok (.invokestatic 85, 3) := by decide +kernel
theorem dL_law_206 : decode cL_law 206 = .ok (.istore 9, 2) := by decide +kernel
theorem dL_law_208 : decode cL_law 208 = .ok (.iload 6, 2) := by decide +kernel
theorem dL_law_210 : decode cL_law 210 = .ok (.ifCond .le 33, 3) := by decide +kernel
theorem dL_law_213 : decode cL_law 213 = .ok (.iload 8, 2) := by decide +kernel
theorem dL_law_215 : decode cL_law 215 = .ok (.iconst 3, 1) := by decide +kernel
theorem dL_law_216 : decode cL_law 216 = .ok (.irem, 1) := by decide +kernel
theorem dL_law_217 : decode cL_law 217 = .ok (.ifCond .le 26, 3) := by decide +kernel
theorem dL_law_220 : decode cL_law 220 = .ok (.aload_n 1, 1) := by decide +kernel
theorem dL_law_221 : decode cL_law 221 = .ok (.iload 4, 2) := by decide +kernel
theorem dL_law_223 : decode cL_law 223 = .ok (.iconst 1, 1) := by decide +kernel
theorem dL_law_224 : decode cL_law 224 = .ok (.aload_n 1, 1) := by decide +kernel
theorem dL_law_225 : decode cL_law 225 = .ok (.iload 5, 2) := by decide +kernel
theorem dL_law_227 : decode cL_law 227 = .ok (.iload 8, 2) := by decide +kernel
theorem dL_law_229 : decode cL_law 229 = .ok (.iconst 4, 1) := by decide +kernel
theorem dL_law_230 : decode cL_law 230 = .ok (.idiv, 1) := by decide +kernel
theorem dL_law_231 : decode cL_law 231 = .ok (.iload 6, 2) := by decide +kernel
theorem dL_law_233 : decode cL_law 233 = .ok (.irem, 1) := by decide +kernel
theorem dL_law_234 : decode cL_law 234 = .ok (.invokestatic 99, 3) := by decide +kernel
theorem dL_law_237 : decode cL_law 237 = .ok (.invokestatic 157, 3) := by decide +kernel
theorem dL_law_240 : decode cL_law 240 = .ok (.goto 30, 3) := by decide +kernel
theorem dL_law_243 : decode cL_law 243 = .ok (.aload_n 1, 1) := by decide +kernel
theorem dL_law_244 : decode cL_law 244 = .ok (.iload 4, 2) := by decide +kernel
theorem dL_law_246 : decode cL_law 246 = .ok (.iload 8, 2) := by decide +kernel
theorem dL_law_248 : decode cL_law 248 = .ok (.iconst 5, 1) := by decide +kernel
theorem dL_law_249 : decode cL_law 249 = .ok (.irem, 1) := by decide +kernel
theorem dL_law_250 : decode cL_law 250 = .ok (.iconst 3, 1) := by decide +kernel
theorem dL_law_251 : decode cL_law 251 = .ok (.if_icmp .ge 7, 3) := by decide +kernel
theorem dL_law_254 : decode cL_law 254 = .ok (.iconst 0, 1) := by decide +kernel
theorem dL_law_255 : decode cL_law 255 = .ok (.goto 4, 3) := by decide +kernel
theorem dL_law_258 : decode cL_law 258 = .ok (.iconst 1, 1) := by decide +kernel
theorem dL_law_259 : decode cL_law 259 = .ok (.iconst 1, 1) := by decide +kernel
theorem dL_law_260 : decode cL_law 260 = .ok (.iload 8, 2) := by decide +kernel
theorem dL_law_262 : decode cL_law 262 = .ok (.iconst 4, 1) := by decide +kernel
theorem dL_law_263 : decode cL_law 263 = .ok (.idiv, 1) := by decide +kernel
theorem dL_law_264 : decode cL_law 264 = .ok (.iconst 4, 1) := by decide +kernel
theorem dL_law_265 : decode cL_law 265 = .ok (.irem, 1) := by decide +kernel
theorem dL_law_266 : decode cL_law 266 = .ok (.iadd, 1) := by decide +kernel
theorem dL_law_267 : decode cL_law 267 = .ok (.invokestatic 157, 3) := by decide +kernel
theorem dL_law_270 : decode cL_law 270 = .ok (.istore 10, 2) := by decide +kernel
theorem dL_law_272 : decode cL_law 272 = .ok (.iload 10, 2) := by decide +kernel
theorem dL_law_274 : decode cL_law 274 = .ok (.iload 9, 2) := by decide +kernel
theorem dL_law_276 : decode cL_law 276 = .ok (.bipush 8, 2) := by decide +kernel
theorem dL_law_278 : decode cL_law 278 = .ok (.if_icmp .ne 9, 3) := by decide +kernel
theorem dL_law_281 : decode cL_law 281 = .ok (.sipush (-1003), 3) := by decide +kernel
theorem dL_law_284 : decode cL_law 284 = .ok (.goto 7, 3) := by decide +kernel
theorem dL_law_287 : decode cL_law 287 = .ok (.iload 9, 2) := by decide +kernel
theorem dL_law_289 : decode cL_law 289 = .ok (.iconst 1, 1) := by decide +kernel
theorem dL_law_290 : decode cL_law 290 = .ok (.iadd, 1) := by decide +kernel
theorem dL_law_291 : decode cL_law 291 = .ok (.if_icmp .eq 5, 3) := by decide +kernel
theorem dL_law_294 : decode cL_law 294 = .ok (.iconst 0, 1) := by decide +kernel
theorem dL_law_295 : decode cL_law 295 = .ok (.ireturn, 1) := by decide +kernel
theorem dL_law_296 : decode cL_law 296 = .ok (.iinc 7 1, 3) := by decide +kernel
theorem dL_law_299 : decode cL_law 299 = .ok (.goto (-116), 3) := by decide +kernel
theorem dL_law_302 : decode cL_law 302 = .ok (.goto 37, 3) := by decide +kernel
theorem dL_law_305 : decode cL_law 305 = .ok (.aload_n 1, 1) := by decide +kernel
theorem dL_law_306 : decode cL_law 306 = .ok (.iload 4, 2) := by decide +kernel
theorem dL_law_308 : decode cL_law 308 = .ok (.invokestatic 85, 3) := by decide +kernel
theorem dL_law_311 : decode cL_law 311 = .ok (.istore 5, 2) := by decide +kernel
theorem dL_law_313 : decode cL_law 313 = .ok (.aload_n 1, 1) := by decide +kernel
theorem dL_law_314 : decode cL_law 314 = .ok (.iload 4, 2) := by decide +kernel
theorem dL_law_316 : decode cL_law 316 = .ok (.invokestatic 160, 3) := by decide +kernel
theorem dL_law_319 : decode cL_law 319 = .ok (.iload 5, 2) := by decide +kernel
theorem dL_law_321 : decode cL_law 321 = .ok (.ifCond .ne 9, 3) := by decide +kernel
theorem dL_law_324 : decode cL_law 324 = .ok (.sipush (-1002), 3) := by decide +kernel
theorem dL_law_327 : decode cL_law 327 = .ok (.goto 7, 3) := by decide +kernel
theorem dL_law_330 : decode cL_law 330 = .ok (.iload 5, 2) := by decide +kernel
theorem dL_law_332 : decode cL_law 332 = .ok (.iconst 1, 1) := by decide +kernel
theorem dL_law_333 : decode cL_law 333 = .ok (.isub, 1) := by decide +kernel
theorem dL_law_334 : decode cL_law 334 = .ok (.if_icmp .eq 5, 3) := by decide +kernel
theorem dL_law_337 : decode cL_law 337 = .ok (.iconst 0, 1) := by decide +kernel
theorem dL_law_338 : decode cL_law 338 = .ok (.ireturn, 1) := by decide +kernel
theorem dL_law_339 : decode cL_law 339 = .ok (.aload_n 1, 1) := by decide +kernel
theorem dL_law_340 : decode cL_law 340 = .ok (.invokestatic 162, 3) := by decide +kernel
theorem dL_law_343 : decode cL_law 343 = .ok (.ifCond .ne 5, 3) := by decide +kernel
theorem dL_law_346 : decode cL_law 346 = .ok (.iconst 0, 1) := by decide +kernel
theorem dL_law_347 : decode cL_law 347 = .ok (.ireturn, 1) := by decide +kernel
theorem dL_law_348 : decode cL_law 348 = .ok (.iinc 2 1, 3) := by decide +kernel
theorem dL_law_351 : decode cL_law 351 = .ok (.goto (-341), 3) := by decide +kernel
theorem dL_law_354 : decode cL_law 354 = .ok (.iconst 1, 1) := by decide +kernel
theorem dL_law_355 : decode cL_law 355 = .ok (.ireturn, 1) := by decide +kernel
