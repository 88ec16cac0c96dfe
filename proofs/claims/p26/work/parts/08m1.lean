theorem dL_plans_134 : decode cL_plans 134 = .ok (.aload_n 0, 1) := by decide +kernel
theorem dL_plans_135 : decode cL_plans 135 = .ok (.bipush 6, 2) := by decide +kernel
theorem dL_plans_137 : decode cL_plans 137 = .ok (.invokevirtual 13, 3) := by decide +kernel
theorem dL_plans_140 : decode cL_plans 140 = .ok (.iload 6, 2) := by decide +kernel
theorem dL_plans_142 : decode cL_plans 142 = .ok (.if_icmp .ne 7, 3) := by decide +kernel
theorem dL_plans_145 : decode cL_plans 145 = .ok (.iconst 1, 1) := by decide +kernel
theorem dL_plans_146 : decode cL_plans 146 = .ok (.goto 4, 3) := by decide +kernel
theorem dL_plans_149 : decode cL_plans 149 = .ok (.iconst 0, 1) := by decide +kernel
theorem dL_plans_150 : decode cL_plans 150 = .ok (.ireturn, 1) := by decide +kernel
theorem dL_cuts_0 : decode cL_cuts 0 = .ok (.iload_n 1, 1) := by decide +kernel
theorem dL_cuts_1 : decode cL_cuts 1 = .ok (.aload_n 0, 1) := by decide +kernel
theorem dL_cuts_2 : decode cL_cuts 2 = .ok (.bipush 9, 2) := by decide +kernel
theorem dL_cuts_4 : decode cL_cuts 4 = .ok (.invokevirtual 13, 3) := by decide +kernel
theorem dL_cuts_7 : decode cL_cuts 7 = .ok (.invokestatic 40, 3) := by decide +kernel
theorem dL_cuts_10 : decode cL_cuts 10 = .ok (.istore_n 3, 1) := by decide +kernel
theorem dL_cuts_11 : decode cL_cuts 11 = .ok (.iload_n 2, 1) := by decide +kernel
theorem dL_cuts_12 : decode cL_cuts 12 = .ok (.aload_n 0, 1) := by decide +kernel
theorem dL_cuts_13 : decode cL_cuts 13 = .ok (.bipush 12, 2) := by decide +kernel
theorem dL_cuts_15 : decode cL_cuts 15 = .ok (.invokevirtual 13, 3) := by decide +kernel
theorem dL_cuts_18 : decode cL_cuts 18 = .ok (.invokestatic 40, 3) := by decide +kernel
theorem dL_cuts_21 : decode cL_cuts 21 = .ok (.istore 4, 2) := by decide +kernel
theorem dL_cuts_23 : decode cL_cuts 23 = .ok (.aload_n 0, 1) := by decide +kernel
theorem dL_cuts_24 : decode cL_cuts 24 = .ok (.iload_n 3, 1) := by decide +kernel
theorem dL_cuts_25 : decode cL_cuts 25 = .ok (.iload 4, 2) := by decide +kernel
theorem dL_cuts_27 : decode cL_cuts 27 = .ok (.iconst 0, 1) := by decide +kernel
theorem dL_cuts_28 : decode cL_cuts 28 = .ok (.invokevirtual 48, 3) := by decide +kernel
theorem dL_cuts_31 : decode cL_cuts 31 = .ok (.istore 5, 2) := by decide +kernel
theorem dL_cuts_33 : decode cL_cuts 33 = .ok (.aload_n 0, 1) := by decide +kernel
theorem dL_cuts_34 : decode cL_cuts 34 = .ok (.iload_n 3, 1) := by decide +kernel
theorem dL_cuts_35 : decode cL_cuts 35 = .ok (.iconst 4, 1) := by decide +kernel
theorem dL_cuts_36 : decode cL_cuts 36 = .ok (.invokevirtual 34, 3) := by decide +kernel
theorem dL_cuts_39 : decode cL_cuts 39 = .ok (.ifCond .ne 7, 3) := by decide +kernel
theorem dL_cuts_42 : decode cL_cuts 42 = .ok (.iconst 1, 1) := by decide +kernel
theorem dL_cuts_43 : decode cL_cuts 43 = .ok (.goto 4, 3) := by decide +kernel
theorem dL_cuts_46 : decode cL_cuts 46 = .ok (.iconst 0, 1) := by decide +kernel
theorem dL_cuts_47 : decode cL_cuts 47 = .ok (.istore 6, 2) := by decide +kernel
theorem dL_cuts_49 : decode cL_cuts 49 = .ok (.aload_n 0, 1) := by decide +kernel
theorem dL_cuts_50 : decode cL_cuts 50 = .ok (.iload_n 3, 1) := by decide +kernel
theorem dL_cuts_51 : decode cL_cuts 51 = .ok (.iload 4, 2) := by decide +kernel
theorem dL_cuts_53 : decode cL_cuts 53 = .ok (.bipush 6, 2) := by decide +kernel
theorem dL_cuts_55 : decode cL_cuts 55 = .ok (.invokevirtual 48, 3) := by decide +kernel
theorem dL_cuts_58 : decode cL_cuts 58 = .ok (.istore 7, 2) := by decide +kernel
theorem dL_cuts_60 : decode cL_cuts 60 = .ok (.aload_n 0, 1) := by decide +kernel
theorem dL_cuts_61 : decode cL_cuts 61 = .ok (.iload_n 3, 1) := by decide +kernel
theorem dL_cuts_62 : decode cL_cuts 62 = .ok (.iload 4, 2) := by decide +kernel
theorem dL_cuts_64 : decode cL_cuts 64 = .ok (.iconst 4, 1) := by decide +kernel
theorem dL_cuts_65 : decode cL_cuts 65 = .ok (.invokevirtual 48, 3) := by decide +kernel
theorem dL_cuts_68 : decode cL_cuts 68 = .ok (.aload_n 0, 1) := by decide +kernel
theorem dL_cuts_69 : decode cL_cuts 69 = .ok (.iconst 5, 1) := by decide +kernel
theorem dL_cuts_70 : decode cL_cuts 70 = .ok (.invokevirtual 13, 3) := by decide +kernel
theorem dL_cuts_73 : decode cL_cuts 73 = .ok (.iadd, 1) := by decide +kernel
theorem dL_cuts_74 : decode cL_cuts 74 = .ok (.istore 8, 2) := by decide +kernel
theorem dL_cuts_76 : decode cL_cuts 76 = .ok (.aload_n 0, 1) := by decide +kernel
theorem dL_cuts_77 : decode cL_cuts 77 = .ok (.iload_n 3, 1) := by decide +kernel
theorem dL_cuts_78 : decode cL_cuts 78 = .ok (.iload 4, 2) := by decide +kernel
theorem dL_cuts_80 : decode cL_cuts 80 = .ok (.iconst 5, 1) := by decide +kernel
theorem dL_cuts_81 : decode cL_cuts 81 = .ok (.invokevirtual 48, 3) := by decide +kernel
theorem dL_cuts_84 : decode cL_cuts 84 = .ok (.aload_n 0, 1) := by decide +kernel
theorem dL_cuts_85 : decode cL_cuts 85 = .ok (.bipush 7, 2) := by decide +kernel
theorem dL_cuts_87 : decode cL_cuts 87 = .ok (.invokevirtual 13, 3) := by decide +kernel
theorem dL_cuts_90 : decode cL_cuts 90 = .ok (.iadd, 1) := by decide +kernel
theorem dL_cuts_91 : decode cL_cuts 91 = .ok (.istore 9, 2) := by decide +kernel
theorem dL_cuts_93 : decode cL_cuts 93 = .ok (.aload_n 0, 1) := by decide +kernel
theorem dL_cuts_94 : decode cL_cuts 94 = .ok (.bipush 8, 2) := by decide +kernel
theorem dL_cuts_96 : decode cL_cuts 96 = .ok (.invokevirtual 13, 3) := by decide +kernel
theorem dL_cuts_99 : decode cL_cuts 99 = .ok (.istore 10, 2) := by decide +kernel
theorem dL_cuts_101 : decode cL_cuts 101 = .ok (.aload_n 0, 1) := by decide +kernel
theorem dL_cuts_102 : decode cL_cuts 102 = .ok (.iconst 1, 1) := by decide +kernel
theorem dL_cuts_103 : decode cL_cuts 103 = .ok (.invokevirtual 13, 3) := by decide +kernel
theorem dL_cuts_106 : decode cL_cuts 106 = .ok (.istore 11, 2) := by decide +kernel
theorem dL_cuts_108 : decode cL_cuts 108 = .ok (.aload_n 0, 1) := by decide +kernel
theorem dL_cuts_109 : decode cL_cuts 109 = .ok (.iload_n 3, 1) := by decide +kernel
theorem dL_cuts_110 : decode cL_cuts 110 = .ok (.iload 4, 2) := by decide +kernel
theorem dL_cuts_112 : decode cL_cuts 112 = .ok (.invokevirtual 58, 3) := by decide +kernel
theorem dL_cuts_115 : decode cL_cuts 115 = .ok (.istore 12, 2) := by decide +kernel
theorem dL_cuts_117 : decode cL_cuts 117 = .ok (.iload 5, 2) := by decide +kernel
theorem dL_cuts_119 : decode cL_cuts 119 = .ok (.iconst (-1), 1) := by decide +kernel
theorem dL_cuts_120 : decode cL_cuts 120 = .ok (.if_icmp .ne 15, 3) := by decide +kernel
theorem dL_cuts_123 : decode cL_cuts 123 = .ok (.iload 12, 2) := by decide +kernel
theorem dL_cuts_125 : decode cL_cuts 125 = .ok (.iconst (-1), 1) := by decide +kernel
theorem dL_cuts_126 : decode cL_cuts 126 = .ok (.if_icmp .ne 7, 3) := by decide +kernel
theorem dL_cuts_129 : decode cL_cuts 129 = .ok (.iconst 1, 1) := by decide +kernel
theorem dL_cuts_130 : decode cL_cuts 130 = .ok (.goto 4, 3) := by decide +kernel
theorem dL_cuts_133 : decode cL_cuts 133 = .ok (.iconst 0, 1) := by decide +kernel
theorem dL_cuts_134 : decode cL_cuts 134 = .ok (.ireturn, 1) := by decide +kernel
theorem dL_cuts_135 : decode cL_cuts 135 = .ok (.iload 6, 2) := by decide +kernel
theorem dL_cuts_137 : decode cL_cuts 137 = .ok (.ifCond .eq 8, 3) := by decide +kernel
theorem dL_cuts_140 : decode cL_cuts 140 = .ok (.iload 5, 2) := by decide +kernel
theorem dL_cuts_142 : decode cL_cuts 142 = .ok (.ifCond .ge 16, 3) := by decide +kernel
theorem dL_cuts_145 : decode cL_cuts 145 = .ok (.iload 12, 2) := by decide +kernel
theorem dL_cuts_147 : decode cL_cuts 147 = .ok (.bipush (-4), 2) := by decide +kernel
theorem dL_cuts_149 : decode cL_cuts 149 = .ok (.if_icmp .ne 7, 3) := by decide +kernel
theorem dL_cuts_152 : decode cL_cuts 152 = .ok (.iconst 1, 1) := by decide +kernel
theorem dL_cuts_153 : decode cL_cuts 153 = .ok (.goto 4, 3) := by decide +kernel
theorem dL_cuts_156 : decode cL_cuts 156 = .ok (.iconst 0, 1) := by decide +kernel
theorem dL_cuts_157 : decode cL_cuts 157 = .ok (.ireturn, 1) := by decide +kernel
theorem dL_cuts_158 : decode cL_cuts 158 = .ok (.aload_n 0, 1) := by decide +kernel
theorem dL_cuts_159 : decode cL_cuts 159 = .ok (.bipush 8, 2) := by decide +kernel
theorem dL_cuts_161 : decode cL_cuts 161 = .ok (.invokevirtual 13, 3) := by decide +kernel
theorem dL_cuts_164 : decode cL_cuts 164 = .ok (.iload 10, 2) := by decide +kernel
theorem dL_cuts_166 : decode cL_cuts 166 = .ok (.iload 7, 2) := by decide +kernel
theorem dL_cuts_168 : decode cL_cuts 168 = .ok (.iadd, 1) := by decide +kernel
theorem dL_cuts_169 : decode cL_cuts 169 = .ok (.if_icmp .ne 14, 3) := by decide +kernel
theorem dL_cuts_172 : decode cL_cuts 172 = .ok (.aload_n 0, 1) := by decide +kernel
theorem dL_cuts_173 : decode cL_cuts 173 = .ok (.iload 4, 2) := by decide +kernel
theorem dL_cuts_175 : decode cL_cuts 175 = .ok (.iconst 0, 1) := by decide +kernel
theorem dL_cuts_176 : decode cL_cuts 176 = .ok (.invokevirtual 25, 3) := by decide +kernel
theorem dL_cuts_179 : decode cL_cuts 179 = .ok (.iconst (-1), 1) := by decide +kernel
theorem dL_cuts_180 : decode cL_cuts 180 = .ok (.if_icmp .eq 5, 3) := by decide +kernel
theorem dL_cuts_183 : decode cL_cuts 183 = .ok (.iconst 0, 1) := by decide +kernel
theorem dL_cuts_184 : decode cL_cuts 184 = .ok (.ireturn, 1) := by decide +kernel
theorem dL_cuts_185 : decode cL_cuts 185 = .ok (.iload 12, 2) := by decide +kernel
theorem dL_cuts_187 : decode cL_cuts 187 = .ok (.bipush 10, 2) := by decide +kernel
theorem dL_cuts_189 : decode cL_cuts 189 = .ok (.if_icmp .ne 27, 3) := by decide +kernel
theorem dL_cuts_192 : decode cL_cuts 192 = .ok (.aload_n 0, 1) := by decide +kernel
theorem dL_cuts_193 : decode cL_cuts 193 = .ok (.bipush 23, 2) := by decide +kernel
theorem dL_cuts_195 : decode cL_cuts 195 = .ok (.invokevirtual 13, 3) := by decide +kernel
theorem dL_cuts_198 : decode cL_cuts 198 = .ok (.ifCond .le 16, 3) := by decide +kernel
theorem dL_cuts_201 : decode cL_cuts 201 = .ok (.aload_n 0, 1) := by decide +kernel
theorem dL_cuts_202 : decode cL_cuts 202 = .ok (.iload_n 3, 1) := by decide +kernel
theorem dL_cuts_203 : decode cL_cuts 203 = .ok (.iconst 4, 1) := by decide +kernel
theorem dL_cuts_204 : decode cL_cuts 204 = .ok (.invokevirtual 34, 3) := by decide +kernel
theorem dL_cuts_207 : decode cL_cuts 207 = .ok (.ifCond .ne 7, 3) := by decide +kernel
theorem dL_cuts_210 : decode cL_cuts 210 = .ok (.iconst 1, 1) := by decide +kernel
theorem dL_cuts_211 : decode cL_cuts 211 = .ok (.goto 4, 3) := by decide +kernel
theorem dL_cuts_214 : decode cL_cuts 214 = .ok (.iconst 0, 1) := by decide +kernel
theorem dL_cuts_215 : decode cL_cuts 215 = .ok (.ireturn, 1) := by decide +kernel
theorem dL_cuts_216 : decode cL_cuts 216 = .ok (.iload 12, 2) := by decide +kernel
theorem dL_cuts_218 : decode cL_cuts 218 = .ok (.ifCond .lt 69, 3) := by decide +kernel
theorem dL_cuts_221 : decode cL_cuts 221 = .ok (.iload 12, 2) := by decide +kernel
theorem dL_cuts_223 : decode cL_cuts 223 = .ok (.iconst 2, 1) := by decide +kernel
theorem dL_cuts_224 : decode cL_cuts 224 = .ok (.if_icmp .gt 63, 3) := by decide +kernel
theorem dL_cuts_227 : decode cL_cuts 227 = .ok (.aload_n 0, 1) := by decide +kernel
theorem dL_cuts_228 : decode cL_cuts 228 = .ok (.iload_n 3, 1) := by decide +kernel
theorem dL_cuts_229 : decode cL_cuts 229 = .ok (.iconst 5, 1) := by decide +kernel
theorem dL_cuts_230 : decode cL_cuts 230 = .ok (.invokevirtual 34, 3) := by decide +kernel
theorem dL_cuts_233 : decode cL_cuts 233 = .ok (.iload 4, 2) := by decide +kernel
theorem dL_cuts_235 : decode cL_cuts 235 = .ok (.if_icmp .ne 52, 3) := by decide +kernel
theorem dL_cuts_238 : decode cL_cuts 238 = .ok (.aload_n 0, 1) := by decide +kernel
theorem dL_cuts_239 : decode cL_cuts 239 = .ok (.bipush 7, 2) := by decide +kernel
theorem dL_cuts_241 : decode cL_cuts 241 = .ok (.invokevirtual 13, 3) := by decide +kernel
theorem dL_cuts_244 : decode cL_cuts 244 = .ok (.iload 9, 2) := by decide +kernel
theorem dL_cuts_246 : decode cL_cuts 246 = .ok (.if_icmp .ne 41, 3) := by decide +kernel
theorem dL_cuts_249 : decode cL_cuts 249 = .ok (.aload_n 0, 1) := by decide +kernel
theorem dL_cuts_250 : decode cL_cuts 250 = .ok (.iconst 5, 1) := by decide +kernel
theorem dL_cuts_251 : decode cL_cuts 251 = .ok (.invokevirtual 13, 3) := by decide +kernel
theorem dL_cuts_254 : decode cL_cuts 254 = .ok (.iload 8, 2) := by decide +kernel
theorem dL_cuts_256 : decode cL_cuts 256 = .ok (.if_icmp .lt 31, 3) := by decide +kernel
theorem dL_cuts_259 : decode cL_cuts 259 = .ok (.aload_n 0, 1) := by decide +kernel
theorem dL_cuts_260 : decode cL_cuts 260 = .ok (.bipush 23, 2) := by decide +kernel
theorem dL_cuts_262 : decode cL_cuts 262 = .ok (.invokevirtual 13, 3) := by decide +kernel
theorem dL_cuts_265 : decode cL_cuts 265 = .ok (.ifCond .gt 18, 3) := by decide +kernel
theorem dL_cuts_268 : decode cL_cuts 268 = .ok (.aload_n 0, 1) := by decide +kernel
theorem dL_cuts_269 : decode cL_cuts 269 = .ok (.iconst 1, 1) := by decide +kernel
theorem dL_cuts_270 : decode cL_cuts 270 = .ok (.invokevirtual 13, 3) := by decide +kernel
theorem dL_cuts_273 : decode cL_cuts 273 = .ok (.iload 11, 2) := by decide +kernel
theorem dL_cuts_275 : decode cL_cuts 275 = .ok (.iconst 1, 1) := by decide +kernel
theorem dL_cuts_276 : decode cL_cuts 276 = .ok (.isub, 1) := by decide +kernel
theorem dL_cuts_277 : decode cL_cuts 277 = .ok (.iload 12, 2) := by decide +kernel
theorem dL_cuts_279 : decode cL_cuts 279 = .ok (.iadd, 1) := by decide +kernel
theorem dL_cuts_280 : decode cL_cuts 280 = .ok (.if_icmp .ne 7, 3) := by decide +kernel
theorem dL_cuts_283 : decode cL_cuts 283 = .ok (.iconst 1, 1) := by decide +kernel
theorem dL_cuts_284 : decode cL_cuts 284 = .ok (.goto 4, 3) := by decide +kernel
theorem dL_cuts_287 : decode cL_cuts 287 = .ok (.iconst 0, 1) := by decide +kernel
theorem dL_cuts_288 : decode cL_cuts 288 = .ok (.ireturn, 1) := by decide +kernel
theorem dL_moves_0 : decode cL_moves 0 = .ok (.iload_n 1, 1) := by decide +kernel
theorem dL_moves_1 : decode cL_moves 1 = .ok (.aload_n 0, 1) := by decide +kernel
theorem dL_moves_2 : decode cL_moves 2 = .ok (.bipush 12, 2) := by decide +kernel
theorem dL_moves_4 : decode cL_moves 4 = .ok (.invokevirtual 13, 3) := by decide +kernel
theorem dL_moves_7 : decode cL_moves 7 = .ok (.invokestatic 40, 3) := by decide +kernel
theorem dL_moves_10 : decode cL_moves 10 = .ok (.istore_n 3, 1) := by decide +kernel
theorem dL_moves_11 : decode cL_moves 11 = .ok (.iload_n 2, 1) := by decide +kernel
theorem dL_moves_12 : decode cL_moves 12 = .ok (.iconst 4, 1) := by decide +kernel
theorem dL_moves_13 : decode cL_moves 13 = .ok (.invokestatic 40, 3) := by decide +kernel
theorem dL_moves_16 : decode cL_moves 16 = .ok (.istore 4, 2) := by decide +kernel
theorem dL_moves_18 : decode cL_moves 18 = .ok (.aload_n 0, 1) := by decide +kernel
theorem dL_moves_19 : decode cL_moves 19 = .ok (.iload_n 3, 1) := by decide +kernel
theorem dL_moves_20 : decode cL_moves 20 = .ok (.iconst 3, 1) := by decide +kernel
theorem dL_moves_21 : decode cL_moves 21 = .ok (.invokevirtual 25, 3) := by decide +kernel
theorem dL_moves_24 : decode cL_moves 24 = .ok (.istore 5, 2) := by decide +kernel
theorem dL_moves_26 : decode cL_moves 26 = .ok (.aload_n 0, 1) := by decide +kernel
theorem dL_moves_27 : decode cL_moves 27 = .ok (.iload_n 3, 1) := by decide +kernel
theorem dL_moves_28 : decode cL_moves 28 = .ok (.iconst 4, 1) := by decide +kernel
theorem dL_moves_29 : decode cL_moves 29 = .ok (.invokevirtual 25, 3) := by decide +kernel
theorem dL_moves_32 : decode cL_moves 32 = .ok (.istore 6, 2) := by decide +kernel
theorem dL_moves_34 : decode cL_moves 34 = .ok (.aload_n 0, 1) := by decide +kernel
theorem dL_moves_35 : decode cL_moves 35 = .ok (.bipush 8, 2) := by decide +kernel
theorem dL_moves_37 : decode cL_moves 37 = .ok (.invokevirtual 13, 3) := by decide +kernel
theorem dL_moves_40 : decode cL_moves 40 = .ok (.istore 7, 2) := by decide +kernel
theorem dL_moves_42 : decode cL_moves 42 = .ok (.iconst 0, 1) := by decide +kernel
theorem dL_moves_43 : decode cL_moves 43 = .ok (.istore 8, 2) := by decide +kernel
theorem dL_moves_45 : decode cL_moves 45 = .ok (.aload_n 0, 1) := by decide +kernel
theorem dL_moves_46 : decode cL_moves 46 = .ok (.iload 4, 2) := by decide +kernel
theorem dL_moves_48 : decode cL_moves 48 = .ok (.iload 8, 2) := by decide +kernel
theorem dL_moves_50 : decode cL_moves 50 = .ok (.invokevirtual 19, 3) := by decide +kernel
theorem dL_moves_53 : decode cL_moves 53 = .ok (.ifCond .lt 9, 3) := by decide +kernel
theorem dL_moves_56 : decode cL_moves 56 = .ok (.iinc 8 1, 3) := by decide +kernel
theorem dL_moves_59 : decode cL_moves 59 = .ok (.goto (-14), 3) := by decide +kernel
theorem dL_moves_62 : decode cL_moves 62 = .ok (.aload_n 0, 1) := by decide +kernel
theorem dL_moves_63 : decode cL_moves 63 = .ok (.iload_n 3, 1) := by decide +kernel
theorem dL_moves_64 : decode cL_moves 64 = .ok (.iload 4, 2) := by decide +kernel
theorem dL_moves_66 : decode cL_moves 66 = .ok (.invokevirtual 61, 3) := by decide +kernel
theorem dL_moves_69 : decode cL_moves 69 = .ok (.istore 9, 2) := by decide +kernel
theorem dL_moves_71 : decode cL_moves 71 = .ok (.iload 5, 2) := by decide +kernel
theorem dL_moves_73 : decode cL_moves 73 = .ok (.ifCond .ge 15, 3) := by decide +kernel
theorem dL_moves_76 : decode cL_moves 76 = .ok (.iload 9, 2) := by decide +kernel
theorem dL_moves_78 : decode cL_moves 78 = .ok (.iconst (-1), 1) := by decide +kernel
theorem dL_moves_79 : decode cL_moves 79 = .ok (.if_icmp .ne 7, 3) := by decide +kernel
theorem dL_moves_82 : decode cL_moves 82 = .ok (.iconst 1, 1) := by decide +kernel
theorem dL_moves_83 : decode cL_moves 83 = .ok (.goto 4, 3) := by decide +kernel
theorem dL_moves_86 : decode cL_moves 86 = .ok (.iconst 0, 1) := by decide +kernel
theorem dL_moves_87 : decode cL_moves 87 = .ok (.ireturn, 1) := by decide +kernel
theorem dL_moves_88 : decode cL_moves 88 = .ok (.iload 5, 2) := by decide +kernel
theorem dL_moves_90 : decode cL_moves 90 = .ok (.iload 4, 2) := by decide +kernel
theorem dL_moves_92 : decode cL_moves 92 = .ok (.if_icmp .eq 34, 3) := by decide +kernel
theorem dL_moves_95 : decode cL_moves 95 = .ok (.iload 8, 2) := by decide +kernel
theorem dL_moves_97 : decode cL_moves 97 = .ok (.bipush 8, 2) := by decide +kernel
theorem dL_moves_99 : decode cL_moves 99 = .ok (.if_icmp .ne 27, 3) := by decide +kernel
theorem dL_moves_102 : decode cL_moves 102 = .ok (.iload 9, 2) := by decide +kernel
theorem dL_moves_104 : decode cL_moves 104 = .ok (.bipush (-3), 2) := by decide +kernel
theorem dL_moves_106 : decode cL_moves 106 = .ok (.if_icmp .ne 18, 3) := by decide +kernel
theorem dL_moves_109 : decode cL_moves 109 = .ok (.aload_n 0, 1) := by decide +kernel
theorem dL_moves_110 : decode cL_moves 110 = .ok (.bipush 8, 2) := by decide +kernel
theorem dL_moves_112 : decode cL_moves 112 = .ok (.invokevirtual 13, 3) := by decide +kernel
theorem dL_moves_115 : decode cL_moves 115 = .ok (.iload 7, 2) := by decide +kernel
theorem dL_moves_117 : decode cL_moves 117 = .ok (.if_icmp .ne 7, 3) := by decide +kernel
theorem dL_moves_120 : decode cL_moves 120 = .ok (.iconst 1, 1) := by decide +kernel
theorem dL_moves_121 : decode cL_moves 121 = .ok (.goto 4, 3) := by decide +kernel
theorem dL_moves_124 : decode cL_moves 124 = .ok (.iconst 0, 1) := by decide +kernel
theorem dL_moves_125 : decode cL_moves 125 = .ok (.ireturn, 1) := by decide +kernel
theorem dL_moves_126 : decode cL_moves 126 = .ok (.iload 9, 2) := by decide +kernel
theorem dL_moves_128 : decode cL_moves 128 = .ok (.iload 6, 2) := by decide +kernel
theorem dL_moves_130 : decode cL_moves 130 = .ok (.iconst 1, 1) := by decide +kernel
theorem dL_moves_131 : decode cL_moves 131 = .ok (.iadd, 1) := by decide +kernel
theorem dL_moves_132 : decode cL_moves 132 = .ok (.if_icmp .ne 64, 3) := by decide +kernel
theorem dL_moves_135 : decode cL_moves 135 = .ok (.aload_n 0, 1) := by decide +kernel
theorem dL_moves_136 : decode cL_moves 136 = .ok (.bipush 8, 2) := by decide +kernel
theorem dL_moves_138 : decode cL_moves 138 = .ok (.invokevirtual 13, 3) := by decide +kernel
theorem dL_moves_141 : decode cL_moves 141 = .ok (.iload 7, 2) := by decide +kernel
theorem dL_moves_143 : decode cL_moves 143 = .ok (.iload 9, 2) := by decide +kernel
theorem dL_moves_145 : decode cL_moves 145 = .ok (.iadd, 1) := by decide +kernel
theorem dL_moves_146 : decode cL_moves 146 = .ok (.if_icmp .ne 50, 3) := by decide +kernel
theorem dL_moves_149 : decode cL_moves 149 = .ok (.aload_n 0, 1) := by decide +kernel
theorem dL_moves_150 : decode cL_moves 150 = .ok (.bipush 23, 2) := by decide +kernel
theorem dL_moves_152 : decode cL_moves 152 = .ok (.invokevirtual 13, 3) := by decide +kernel
theorem dL_moves_155 : decode cL_moves 155 = .ok (.ifCond .le 26, 3) := by decide +kernel
theorem dL_moves_158 : decode cL_moves 158 = .ok (.aload_n 0, 1) := by decide +kernel
theorem dL_moves_159 : decode cL_moves 159 = .ok (.iload_n 3, 1) := by decide +kernel
theorem dL_moves_160 : decode cL_moves 160 = .ok (.iconst 3, 1) := by decide +kernel
theorem dL_moves_161 : decode cL_moves 161 = .ok (.invokevirtual 25, 3) := by decide +kernel
theorem dL_moves_164 : decode cL_moves 164 = .ok (.ifCond .lt 28, 3) := by decide +kernel
theorem dL_moves_167 : decode cL_moves 167 = .ok (.aload_n 0, 1) := by decide +kernel
theorem dL_moves_168 : decode cL_moves 168 = .ok (.iload 4, 2) := by decide +kernel
theorem dL_moves_170 : decode cL_moves 170 = .ok (.iconst 0, 1) := by decide +kernel
theorem dL_moves_171 : decode cL_moves 171 = .ok (.invokevirtual 19, 3) := by decide +kernel
theorem dL_moves_174 : decode cL_moves 174 = .ok (.iload_n 3, 1) := by decide +kernel
theorem dL_moves_175 : decode cL_moves 175 = .ok (.if_icmp .ne 21, 3) := by decide +kernel
theorem dL_moves_178 : decode cL_moves 178 = .ok (.goto 14, 3) := by decide +kernel
theorem dL_moves_181 : decode cL_moves 181 = .ok (.aload_n 0, 1) := by decide +kernel
theorem dL_moves_182 : decode cL_moves 182 = .ok (.iload 4, 2) := by decide +kernel
theorem dL_moves_184 : decode cL_moves 184 = .ok (.iconst 0, 1) := by decide +kernel
theorem dL_moves_185 : decode cL_moves 185 = .ok (.invokevirtual 19, 3) := by decide +kernel
theorem dL_moves_188 : decode cL_moves 188 = .ok (.iload_n 3, 1) := by decide +kernel
theorem dL_moves_189 : decode cL_moves 189 = .ok (.if_icmp .ne 7, 3) := by decide +kernel
theorem dL_moves_192 : decode cL_moves 192 = .ok (.iconst 1, 1) := by decide +kernel
theorem dL_moves_193 : decode cL_moves 193 = .ok (.goto 4, 3) := by decide +kernel
theorem dL_moves_196 : decode cL_moves 196 = .ok (.iconst 0, 1) := by decide +kernel
theorem dL_moves_197 : decode cL_moves 197 = .ok (.ireturn, 1) := by decide +kernel
theorem dL_passes_0 : decode cL_passes 0 = .ok (.iconst 1, 1) := by decide +kernel
theorem dL_passes_1 : decode cL_passes 1 = .ok (.iload_n 1, 1) := by decide +kernel
theorem dL_passes_2 : decode cL_passes 2 = .ok (.bipush 9, 2) := by decide +kernel
theorem dL_passes_4 : decode cL_passes 4 = .ok (.invokestatic 40, 3) := by decide +kernel
theorem dL_passes_7 : decode cL_passes 7 = .ok (.iadd, 1) := by decide +kernel
theorem dL_passes_8 : decode cL_passes 8 = .ok (.istore_n 2, 1) := by decide +kernel
theorem dL_passes_9 : decode cL_passes 9 = .ok (.aload_n 0, 1) := by decide +kernel
theorem dL_passes_10 : decode cL_passes 10 = .ok (.iconst 0, 1) := by decide +kernel
theorem dL_passes_11 : decode cL_passes 11 = .ok (.invokevirtual 13, 3) := by decide +kernel
theorem dL_passes_14 : decode cL_passes 14 = .ok (.istore_n 3, 1) := by decide +kernel
theorem dL_passes_15 : decode cL_passes 15 = .ok (.aload_n 0, 1) := by decide +kernel
theorem dL_passes_16 : decode cL_passes 16 = .ok (.bipush 11, 2) := by decide +kernel
theorem dL_passes_18 : decode cL_passes 18 = .ok (.invokevirtual 13, 3) := by decide +kernel
theorem dL_passes_21 : decode cL_passes 21 = .ok (.istore 4, 2) := by decide +kernel
theorem dL_passes_23 : decode cL_passes 23 = .ok (.aload_n 0, 1) := by decide +kernel
theorem dL_passes_24 : decode cL_passes 24 = .ok (.iload_n 2, 1) := by decide +kernel
theorem dL_passes_25 : decode cL_passes 25 = .ok (.invokevirtual 64, 3) := by decide +kernel
theorem dL_passes_28 : decode cL_passes 28 = .ok (.istore 5, 2) := by decide +kernel
theorem dL_passes_30 : decode cL_passes 30 = .ok (.iload_n 3, 1) := by decide +kernel
theorem dL_passes_31 : decode cL_passes 31 = .ok (.iload_n 2, 1) := by decide +kernel
theorem dL_passes_32 : decode cL_passes 32 = .ok (.iadd, 1) := by decide +kernel
theorem dL_passes_33 : decode cL_passes 33 = .ok (.sipush 999, 3) := by decide +kernel
theorem dL_passes_36 : decode cL_passes 36 = .ok (.if_icmp .le 18, 3) := by decide +kernel
theorem dL_passes_39 : decode cL_passes 39 = .ok (.iload 5, 2) := by decide +kernel
theorem dL_passes_41 : decode cL_passes 41 = .ok (.bipush (-3), 2) := by decide +kernel
theorem dL_passes_43 : decode cL_passes 43 = .ok (.if_icmp .ne 7, 3) := by decide +kernel
theorem dL_passes_46 : decode cL_passes 46 = .ok (.iconst 1, 1) := by decide +kernel
theorem dL_passes_47 : decode cL_passes 47 = .ok (.goto 37, 3) := by decide +kernel
theorem dL_passes_50 : decode cL_passes 50 = .ok (.iconst 0, 1) := by decide +kernel
theorem dL_passes_51 : decode cL_passes 51 = .ok (.goto 33, 3) := by decide +kernel
theorem dL_passes_54 : decode cL_passes 54 = .ok (.aload_n 0, 1) := by decide +kernel
theorem dL_passes_55 : decode cL_passes 55 = .ok (.iconst 0, 1) := by decide +kernel
theorem dL_passes_56 : decode cL_passes 56 = .ok (.invokevirtual 13, 3) := by decide +kernel
theorem dL_passes_59 : decode cL_passes 59 = .ok (.iload_n 3, 1) := by decide +kernel
theorem dL_passes_60 : decode cL_passes 60 = .ok (.iload_n 2, 1) := by decide +kernel
theorem dL_passes_61 : decode cL_passes 61 = .ok (.iadd, 1) := by decide +kernel
theorem dL_passes_62 : decode cL_passes 62 = .ok (.if_icmp .ne 21, 3) := by decide +kernel
theorem dL_passes_65 : decode cL_passes 65 = .ok (.iload 5, 2) := by decide +kernel
theorem dL_passes_67 : decode cL_passes 67 = .ok (.aload_n 0, 1) := by decide +kernel
theorem dL_passes_68 : decode cL_passes 68 = .ok (.bipush 11, 2) := by decide +kernel
theorem dL_passes_70 : decode cL_passes 70 = .ok (.invokevirtual 13, 3) := by decide +kernel
theorem dL_passes_73 : decode cL_passes 73 = .ok (.iload 4, 2) := by decide +kernel
theorem dL_passes_75 : decode cL_passes 75 = .ok (.isub, 1) := by decide +kernel
theorem dL_passes_76 : decode cL_passes 76 = .ok (.if_icmp .ne 7, 3) := by decide +kernel
theorem dL_passes_79 : decode cL_passes 79 = .ok (.iconst 1, 1) := by decide +kernel
theorem dL_passes_80 : decode cL_passes 80 = .ok (.goto 4, 3) := by decide +kernel
theorem dL_passes_83 : decode cL_passes 83 = .ok (.iconst 0, 1) := by decide +kernel
theorem dL_passes_84 : decode cL_passes 84 = .ok (.ireturn, 1) := by decide +kernel
theorem dL_buys_0 : decode cL_buys 0 = .ok (.aload_n 0, 1) := by decide +kernel
theorem dL_buys_1 : decode cL_buys 1 = .ok (.bipush 12, 2) := by decide +kernel
theorem dL_buys_3 : decode cL_buys 3 = .ok (.invokevirtual 13, 3) := by decide +kernel
theorem dL_buys_6 : decode cL_buys 6 = .ok (.istore_n 3, 1) := by decide +kernel
theorem dL_buys_7 : decode cL_buys 7 = .ok (.iload_n 1, 1) := by decide +kernel
theorem dL_buys_8 : decode cL_buys 8 = .ok (.iconst 4, 1) := by decide +kernel
theorem dL_buys_9 : decode cL_buys 9 = .ok (.invokestatic 40, 3) := by decide +kernel
theorem dL_buys_12 : decode cL_buys 12 = .ok (.istore 4, 2) := by decide +kernel
theorem dL_buys_14 : decode cL_buys 14 = .ok (.aload_n 0, 1) := by decide +kernel
theorem dL_buys_15 : decode cL_buys 15 = .ok (.iload 4, 2) := by decide +kernel
theorem dL_buys_17 : decode cL_buys 17 = .ok (.bipush 7, 2) := by decide +kernel
theorem dL_buys_19 : decode cL_buys 19 = .ok (.invokevirtual 19, 3) := by decide +kernel
theorem dL_buys_22 : decode cL_buys 22 = .ok (.ifCond .ge 10, 3) := by decide +kernel
theorem dL_buys_25 : decode cL_buys 25 = .ok (.iload_n 3, 1) := by decide +kernel
theorem dL_buys_26 : decode cL_buys 26 = .ok (.sipush 200, 3) := by decide +kernel
theorem dL_buys_29 : decode cL_buys 29 = .ok (.if_icmp .ne 7, 3) := by decide +kernel
theorem dL_buys_32 : decode cL_buys 32 = .ok (.iconst 1, 1) := by decide +kernel
theorem dL_buys_33 : decode cL_buys 33 = .ok (.goto 4, 3) := by decide +kernel
theorem dL_buys_36 : decode cL_buys 36 = .ok (.iconst 0, 1) := by decide +kernel
theorem dL_buys_37 : decode cL_buys 37 = .ok (.istore 5, 2) := by decide +kernel
theorem dL_buys_39 : decode cL_buys 39 = .ok (.aload_n 0, 1) := by decide +kernel
theorem dL_buys_40 : decode cL_buys 40 = .ok (.iload 4, 2) := by decide +kernel
theorem dL_buys_42 : decode cL_buys 42 = .ok (.iload_n 1, 1) := by decide +kernel
theorem dL_buys_43 : decode cL_buys 43 = .ok (.iconst 3, 1) := by decide +kernel
theorem dL_buys_44 : decode cL_buys 44 = .ok (.ishr, 1) := by decide +kernel
theorem dL_buys_45 : decode cL_buys 45 = .ok (.iconst 3, 1) := by decide +kernel
theorem dL_buys_46 : decode cL_buys 46 = .ok (.invokestatic 40, 3) := by decide +kernel
theorem dL_buys_49 : decode cL_buys 49 = .ok (.iconst 5, 1) := by decide +kernel
theorem dL_buys_50 : decode cL_buys 50 = .ok (.iload_n 1, 1) := by decide +kernel
theorem dL_buys_51 : decode cL_buys 51 = .ok (.bipush 6, 2) := by decide +kernel
theorem dL_buys_53 : decode cL_buys 53 = .ok (.ishr, 1) := by decide +kernel
theorem dL_buys_54 : decode cL_buys 54 = .ok (.bipush 60, 2) := by decide +kernel
theorem dL_buys_56 : decode cL_buys 56 = .ok (.invokestatic 40, 3) := by decide +kernel
theorem dL_buys_59 : decode cL_buys 59 = .ok (.iadd, 1) := by decide +kernel
theorem dL_buys_60 : decode cL_buys 60 = .ok (.iconst 5, 1) := by decide +kernel
theorem dL_buys_61 : decode cL_buys 61 = .ok (.iload_n 2, 1) := by decide +kernel
theorem dL_buys_62 : decode cL_buys 62 = .ok (.bipush 60, 2) := by decide +kernel
theorem dL_buys_64 : decode cL_buys 64 = .ok (.invokestatic 40, 3) := by decide +kernel
theorem dL_buys_67 : decode cL_buys 67 = .ok (.iadd, 1) := by decide +kernel
theorem dL_buys_68 : decode cL_buys 68 = .ok (.invokevirtual 67, 3) := by decide +kernel
theorem dL_buys_71 : decode cL_buys 71 = .ok (.istore 6, 2) := by decide +kernel
theorem dL_buys_73 : decode cL_buys 73 = .ok (.iload 5, 2) := by decide +kernel
theorem dL_buys_75 : decode cL_buys 75 = .ok (.ifCond .eq 18, 3) := by decide +kernel
theorem dL_buys_78 : decode cL_buys 78 = .ok (.iload 6, 2) := by decide +kernel
theorem dL_buys_80 : decode cL_buys 80 = .ok (.bipush (-3), 2) := by decide +kernel
theorem dL_buys_82 : decode cL_buys 82 = .ok (.if_icmp .ne 7, 3) := by decide +kernel
theorem dL_buys_85 : decode cL_buys 85 = .ok (.iconst 1, 1) := by decide +kernel
theorem dL_buys_86 : decode cL_buys 86 = .ok (.goto 40, 3) := by decide +kernel
theorem dL_buys_89 : decode cL_buys 89 = .ok (.iconst 0, 1) := by decide +kernel
theorem dL_buys_90 : decode cL_buys 90 = .ok (.goto 36, 3) := by decide +kernel
theorem dL_buys_93 : decode cL_buys 93 = .ok (.iload 6, 2) := by decide +kernel
theorem dL_buys_95 : decode cL_buys 95 = .ok (.iload_n 3, 1) := by decide +kernel
theorem dL_buys_96 : decode cL_buys 96 = .ok (.if_icmp .ne 29, 3) := by decide +kernel
theorem dL_buys_99 : decode cL_buys 99 = .ok (.aload_n 0, 1) := by decide +kernel
theorem dL_buys_100 : decode cL_buys 100 = .ok (.iload 4, 2) := by decide +kernel
theorem dL_buys_102 : decode cL_buys 102 = .ok (.iconst 0, 1) := by decide +kernel
theorem dL_buys_103 : decode cL_buys 103 = .ok (.invokevirtual 19, 3) := by decide +kernel
theorem dL_buys_106 : decode cL_buys 106 = .ok (.iload_n 3, 1) := by decide +kernel
theorem dL_buys_107 : decode cL_buys 107 = .ok (.if_icmp .ne 18, 3) := by decide +kernel
theorem dL_buys_110 : decode cL_buys 110 = .ok (.aload_n 0, 1) := by decide +kernel
theorem dL_buys_111 : decode cL_buys 111 = .ok (.iload_n 3, 1) := by decide +kernel
theorem dL_buys_112 : decode cL_buys 112 = .ok (.iconst 5, 1) := by decide +kernel
theorem dL_buys_113 : decode cL_buys 113 = .ok (.invokevirtual 25, 3) := by decide +kernel
theorem dL_buys_116 : decode cL_buys 116 = .ok (.bipush (-5), 2) := by decide +kernel
theorem dL_buys_118 : decode cL_buys 118 = .ok (.if_icmp .ne 7, 3) := by decide +kernel
theorem dL_buys_121 : decode cL_buys 121 = .ok (.iconst 1, 1) := by decide +kernel
theorem dL_buys_122 : decode cL_buys 122 = .ok (.goto 4, 3) := by decide +kernel
theorem dL_buys_125 : decode cL_buys 125 = .ok (.iconst 0, 1) := by decide +kernel
theorem dL_buys_126 : decode cL_buys 126 = .ok (.ireturn, 1) := by decide +kernel
theorem dL_does_0 : decode cL_does 0 = .ok (.aload_n 0, 1) := by decide +kernel
theorem dL_does_1 : decode cL_does 1 = .ok (.bipush 9, 2) := by decide +kernel
theorem dL_does_3 : decode cL_does 3 = .ok (.invokevirtual 13, 3) := by decide +kernel
theorem dL_does_6 : decode cL_does 6 = .ok (.istore 4, 2) := by decide +kernel
theorem dL_does_8 : decode cL_does 8 = .ok (.iload_n 1, 1) := by decide +kernel
theorem dL_does_9 : decode cL_does 9 = .ok (.ifCond .ne 119, 3) := by decide +kernel
theorem dL_does_12 : decode cL_does 12 = .ok (.iload_n 2, 1) := by decide +kernel
theorem dL_does_13 : decode cL_does 13 = .ok (.iconst 5, 1) := by decide +kernel
theorem dL_does_14 : decode cL_does 14 = .ok (.invokestatic 40, 3) := by decide +kernel
theorem dL_does_17 : decode cL_does 17 = .ok (.istore 5, 2) := by decide +kernel
theorem dL_does_19 : decode cL_does 19 = .ok (.iload 5, 2) := by decide +kernel
theorem dL_does_21 : decode cL_does 21 = .ok (.ifCond .ne 12, 3) := by decide +kernel
theorem dL_does_24 : decode cL_does 24 = .ok (.iload_n 3, 1) := by decide +kernel
theorem dL_does_25 : decode cL_does 25 = .ok (.bipush 6, 2) := by decide +kernel
theorem dL_does_27 : decode cL_does 27 = .ok (.invokestatic 40, 3) := by decide +kernel
theorem dL_does_30 : decode cL_does 30 = .ok (.goto 40, 3) := by decide +kernel
theorem dL_does_33 : decode cL_does 33 = .ok (.iload 5, 2) := by decide +kernel
theorem dL_does_35 : decode cL_does 35 = .ok (.iconst 1, 1) := by decide +kernel
theorem dL_does_36 : decode cL_does 36 = .ok (.if_icmp .ne 14, 3) := by decide +kernel
theorem dL_does_39 : decode cL_does 39 = .ok (.iconst 1, 1) := by decide +kernel
theorem dL_does_40 : decode cL_does 40 = .ok (.iload_n 3, 1) := by decide +kernel
theorem dL_does_41 : decode cL_does 41 = .ok (.bipush 20, 2) := by decide +kernel
theorem dL_does_43 : decode cL_does 43 = .ok (.invokestatic 40, 3) := by decide +kernel
theorem dL_does_46 : decode cL_does 46 = .ok (.iadd, 1) := by decide +kernel
theorem dL_does_47 : decode cL_does 47 = .ok (.goto 23, 3) := by decide +kernel
theorem dL_does_50 : decode cL_does 50 = .ok (.iload 5, 2) := by decide +kernel
theorem dL_does_52 : decode cL_does 52 = .ok (.iconst 3, 1) := by decide +kernel
theorem dL_does_53 : decode cL_does 53 = .ok (.if_icmp .ne 12, 3) := by decide +kernel
theorem dL_does_56 : decode cL_does 56 = .ok (.iload_n 3, 1) := by decide +kernel
theorem dL_does_57 : decode cL_does 57 = .ok (.bipush 9, 2) := by decide +kernel
theorem dL_does_59 : decode cL_does 59 = .ok (.invokestatic 40, 3) := by decide +kernel
theorem dL_does_62 : decode cL_does 62 = .ok (.goto 8, 3) := by decide +kernel
theorem dL_does_65 : decode cL_does 65 = .ok (.iload_n 3, 1) := by decide +kernel
theorem dL_does_66 : decode cL_does 66 = .ok (.iconst 2, 1) := by decide +kernel
theorem dL_does_67 : decode cL_does 67 = .ok (.invokestatic 40, 3) := by decide +kernel
theorem dL_does_70 : decode cL_does 70 = .ok (.istore 6, 2) := by decide +kernel
theorem dL_does_72 : decode cL_does 72 = .ok (.aload_n 0, 1) := by decide +kernel
theorem dL_does_73 : decode cL_does 73 = .ok (.bipush 20, 2) := by decide +kernel
theorem dL_does_75 : decode cL_does 75 = .ok (.iload 5, 2) := by decide +kernel
theorem dL_does_77 : decode cL_does 77 = .ok (.iadd, 1) := by decide +kernel
theorem dL_does_78 : decode cL_does 78 = .ok (.invokevirtual 13, 3) := by decide +kernel
theorem dL_does_81 : decode cL_does 81 = .ok (.istore 7, 2) := by decide +kernel
theorem dL_does_83 : decode cL_does 83 = .ok (.aload_n 0, 1) := by decide +kernel
theorem dL_does_84 : decode cL_does 84 = .ok (.iload 5, 2) := by decide +kernel
theorem dL_does_86 : decode cL_does 86 = .ok (.iload 6, 2) := by decide +kernel
theorem dL_does_88 : decode cL_does 88 = .ok (.invokevirtual 71, 3) := by decide +kernel
theorem dL_does_91 : decode cL_does 91 = .ok (.iload 7, 2) := by decide +kernel
theorem dL_does_93 : decode cL_does 93 = .ok (.iload 6, 2) := by decide +kernel
theorem dL_does_95 : decode cL_does 95 = .ok (.if_icmp .ne 8, 3) := by decide +kernel
theorem dL_does_98 : decode cL_does 98 = .ok (.bipush (-5), 2) := by decide +kernel
theorem dL_does_100 : decode cL_does 100 = .ok (.goto 5, 3) := by decide +kernel
theorem dL_does_103 : decode cL_does 103 = .ok (.iload 7, 2) := by decide +kernel
theorem dL_does_105 : decode cL_does 105 = .ok (.if_icmp .ne 21, 3) := by decide +kernel
theorem dL_does_108 : decode cL_does 108 = .ok (.aload_n 0, 1) := by decide +kernel
theorem dL_does_109 : decode cL_does 109 = .ok (.bipush 20, 2) := by decide +kernel
theorem dL_does_111 : decode cL_does 111 = .ok (.iload 5, 2) := by decide +kernel
theorem dL_does_113 : decode cL_does 113 = .ok (.iadd, 1) := by decide +kernel
theorem dL_does_114 : decode cL_does 114 = .ok (.invokevirtual 13, 3) := by decide +kernel
theorem dL_does_117 : decode cL_does 117 = .ok (.iload 6, 2) := by decide +kernel
theorem dL_does_119 : decode cL_does 119 = .ok (.if_icmp .ne 7, 3) := by decide +kernel
theorem dL_does_122 : decode cL_does 122 = .ok (.iconst 1, 1) := by decide +kernel
theorem dL_does_123 : decode cL_does 123 = .ok (.goto 4, 3) := by decide +kernel
theorem dL_does_126 : decode cL_does 126 = .ok (.iconst 0, 1) := by decide +kernel
theorem dL_does_127 : decode cL_does 127 = .ok (.ireturn, 1) := by decide +kernel
theorem dL_does_128 : decode cL_does 128 = .ok (.iload_n 1, 1) := by decide +kernel
theorem dL_does_129 : decode cL_does 129 = .ok (.iconst 4, 1) := by decide +kernel
theorem dL_does_130 : decode cL_does 130 = .ok (.if_icmp .lt 12, 3) := by decide +kernel
theorem dL_does_133 : decode cL_does 133 = .ok (.aload_n 0, 1) := by decide +kernel
theorem dL_does_134 : decode cL_does 134 = .ok (.bipush 12, 2) := by decide +kernel
theorem dL_does_136 : decode cL_does 136 = .ok (.invokevirtual 13, 3) := by decide +kernel
theorem dL_does_139 : decode cL_does 139 = .ok (.ifCond .ne 10, 3) := by decide +kernel
theorem dL_does_142 : decode cL_does 142 = .ok (.aload_n 0, 1) := by decide +kernel
theorem dL_does_143 : decode cL_does 143 = .ok (.iload_n 2, 1) := by decide +kernel
theorem dL_does_144 : decode cL_does 144 = .ok (.iload_n 3, 1) := by decide +kernel
theorem dL_does_145 : decode cL_does 145 = .ok (.invokestatic 74, 3) := by decide +kernel
theorem dL_does_148 : decode cL_does 148 = .ok (.ireturn, 1) := by decide +kernel
theorem dL_does_149 : decode cL_does 149 = .ok (.iload_n 1, 1) := by decide +kernel
theorem dL_does_150 : decode cL_does 150 = .ok (.bipush 7, 2) := by decide +kernel
theorem dL_does_152 : decode cL_does 152 = .ok (.if_icmp .lt 8, 3) := by decide +kernel
theorem dL_does_155 : decode cL_does 155 = .ok (.iload 4, 2) := by decide +kernel
theorem dL_does_157 : decode cL_does 157 = .ok (.ifCond .ne 62, 3) := by decide +kernel
theorem dL_does_160 : decode cL_does 160 = .ok (.aload_n 0, 1) := by decide +kernel
theorem dL_does_161 : decode cL_does 161 = .ok (.iload_n 2, 1) := by decide +kernel
theorem dL_does_162 : decode cL_does 162 = .ok (.iconst 3, 1) := by decide +kernel
theorem dL_does_163 : decode cL_does 163 = .ok (.invokestatic 40, 3) := by decide +kernel
theorem dL_does_166 : decode cL_does 166 = .ok (.iconst 1, 1) := by decide +kernel
theorem dL_does_167 : decode cL_does 167 = .ok (.iload_n 2, 1) := by decide +kernel
theorem dL_does_168 : decode cL_does 168 = .ok (.iconst 3, 1) := by decide +kernel
theorem dL_does_169 : decode cL_does 169 = .ok (.ishr, 1) := by decide +kernel
theorem dL_does_170 : decode cL_does 170 = .ok (.bipush 40, 2) := by decide +kernel
theorem dL_does_172 : decode cL_does 172 = .ok (.invokestatic 40, 3) := by decide +kernel
theorem dL_does_175 : decode cL_does 175 = .ok (.iadd, 1) := by decide +kernel
theorem dL_does_176 : decode cL_does 176 = .ok (.iconst 1, 1) := by decide +kernel
theorem dL_does_177 : decode cL_does 177 = .ok (.iload_n 3, 1) := by decide +kernel
theorem dL_does_178 : decode cL_does 178 = .ok (.bipush 40, 2) := by decide +kernel
theorem dL_does_180 : decode cL_does 180 = .ok (.invokestatic 40, 3) := by decide +kernel
theorem dL_does_183 : decode cL_does 183 = .ok (.iadd, 1) := by decide +kernel
theorem dL_does_184 : decode cL_does 184 = .ok (.iload_n 3, 1) := by decide +kernel
theorem dL_does_185 : decode cL_does 185 = .ok (.bipush 7, 2) := by decide +kernel
theorem dL_does_187 : decode cL_does 187 = .ok (.ishr, 1) := by decide +kernel
theorem dL_does_188 : decode cL_does 188 = .ok (.bipush 30, 2) := by decide +kernel
theorem dL_does_190 : decode cL_does 190 = .ok (.invokestatic 40, 3) := by decide +kernel
theorem dL_does_193 : decode cL_does 193 = .ok (.invokevirtual 78, 3) := by decide +kernel
theorem dL_does_196 : decode cL_does 196 = .ok (.iload 4, 2) := by decide +kernel
theorem dL_does_198 : decode cL_does 198 = .ok (.bipush 12, 2) := by decide +kernel
theorem dL_does_200 : decode cL_does 200 = .ok (.if_icmp .ne 8, 3) := by decide +kernel
theorem dL_does_203 : decode cL_does 203 = .ok (.bipush (-3), 2) := by decide +kernel
theorem dL_does_205 : decode cL_does 205 = .ok (.goto 5, 3) := by decide +kernel
theorem dL_does_208 : decode cL_does 208 = .ok (.iload 4, 2) := by decide +kernel
theorem dL_does_210 : decode cL_does 210 = .ok (.if_icmp .ne 7, 3) := by decide +kernel
theorem dL_does_213 : decode cL_does 213 = .ok (.iconst 1, 1) := by decide +kernel
theorem dL_does_214 : decode cL_does 214 = .ok (.goto 4, 3) := by decide +kernel
theorem dL_does_217 : decode cL_does 217 = .ok (.iconst 0, 1) := by decide +kernel
theorem dL_does_218 : decode cL_does 218 = .ok (.ireturn, 1) := by decide +kernel
theorem dL_does_219 : decode cL_does 219 = .ok (.iload_n 1, 1) := by decide +kernel
theorem dL_does_220 : decode cL_does 220 = .ok (.bipush 9, 2) := by decide +kernel
theorem dL_does_222 : decode cL_does 222 = .ok (.if_icmp .ge 10, 3) := by decide +kernel
theorem dL_does_225 : decode cL_does 225 = .ok (.aload_n 0, 1) := by decide +kernel
theorem dL_does_226 : decode cL_does 226 = .ok (.iload_n 2, 1) := by decide +kernel
theorem dL_does_227 : decode cL_does 227 = .ok (.iload_n 3, 1) := by decide +kernel
theorem dL_does_228 : decode cL_does 228 = .ok (.invokestatic 81, 3) := by decide +kernel
theorem dL_does_231 : decode cL_does 231 = .ok (.ireturn, 1) := by decide +kernel
theorem dL_does_232 : decode cL_does 232 = .ok (.iload_n 1, 1) := by decide +kernel
theorem dL_does_233 : decode cL_does 233 = .ok (.bipush 9, 2) := by decide +kernel
theorem dL_does_235 : decode cL_does 235 = .ok (.if_icmp .ne 9, 3) := by decide +kernel
theorem dL_does_238 : decode cL_does 238 = .ok (.aload_n 0, 1) := by decide +kernel
theorem dL_does_239 : decode cL_does 239 = .ok (.iload_n 2, 1) := by decide +kernel
theorem dL_does_240 : decode cL_does 240 = .ok (.invokestatic 84, 3) := by decide +kernel
theorem dL_does_243 : decode cL_does 243 = .ok (.ireturn, 1) := by decide +kernel
theorem dL_does_244 : decode cL_does 244 = .ok (.iload_n 1, 1) := by decide +kernel
theorem dL_does_245 : decode cL_does 245 = .ok (.bipush 12, 2) := by decide +kernel
theorem dL_does_247 : decode cL_does 247 = .ok (.if_icmp .ge 10, 3) := by decide +kernel
theorem dL_does_250 : decode cL_does 250 = .ok (.aload_n 0, 1) := by decide +kernel
theorem dL_does_251 : decode cL_does 251 = .ok (.iload_n 2, 1) := by decide +kernel
theorem dL_does_252 : decode cL_does 252 = .ok (.iload_n 3, 1) := by decide +kernel
theorem dL_does_253 : decode cL_does 253 = .ok (.invokestatic 88, 3) := by decide +kernel
theorem dL_does_256 : decode cL_does 256 = .ok (.ireturn, 1) := by decide +kernel
theorem dL_does_257 : decode cL_does 257 = .ok (.iload_n 1, 1) := by decide +kernel
theorem dL_does_258 : decode cL_does 258 = .ok (.bipush 12, 2) := by decide +kernel
theorem dL_does_260 : decode cL_does 260 = .ok (.if_icmp .ne 75, 3) := by decide +kernel
theorem dL_does_263 : decode cL_does 263 = .ok (.iload_n 2, 1) := by decide +kernel
theorem dL_does_264 : decode cL_does 264 = .ok (.iload 4, 2) := by decide +kernel
theorem dL_does_266 : decode cL_does 266 = .ok (.invokestatic 40, 3) := by decide +kernel
theorem dL_does_269 : decode cL_does 269 = .ok (.istore 5, 2) := by decide +kernel
theorem dL_does_271 : decode cL_does 271 = .ok (.aload_n 0, 1) := by decide +kernel
theorem dL_does_272 : decode cL_does 272 = .ok (.bipush 10, 2) := by decide +kernel
theorem dL_does_274 : decode cL_does 274 = .ok (.invokevirtual 13, 3) := by decide +kernel
theorem dL_does_277 : decode cL_does 277 = .ok (.istore 6, 2) := by decide +kernel
theorem dL_does_279 : decode cL_does 279 = .ok (.aload_n 0, 1) := by decide +kernel
theorem dL_does_280 : decode cL_does 280 = .ok (.iload 5, 2) := by decide +kernel
theorem dL_does_282 : decode cL_does 282 = .ok (.iconst 4, 1) := by decide +kernel
theorem dL_does_283 : decode cL_does 283 = .ok (.invokevirtual 34, 3) := by decide +kernel
theorem dL_does_286 : decode cL_does 286 = .ok (.ifCond .ne 7, 3) := by decide +kernel
theorem dL_does_289 : decode cL_does 289 = .ok (.iconst 1, 1) := by decide +kernel
theorem dL_does_290 : decode cL_does 290 = .ok (.goto 4, 3) := by decide +kernel
theorem dL_does_293 : decode cL_does 293 = .ok (.iconst 0, 1) := by decide +kernel
theorem dL_does_294 : decode cL_does 294 = .ok (.istore 7, 2) := by decide +kernel
theorem dL_does_296 : decode cL_does 296 = .ok (.aload_n 0, 1) := by decide +kernel
theorem dL_does_297 : decode cL_does 297 = .ok (.iload 5, 2) := by decide +kernel
theorem dL_does_299 : decode cL_does 299 = .ok (.invokevirtual 91, 3) := by decide +kernel
theorem dL_does_302 : decode cL_does 302 = .ok (.iload 7, 2) := by decide +kernel
theorem dL_does_304 : decode cL_does 304 = .ok (.ifCond .eq 10, 3) := by decide +kernel
theorem dL_does_307 : decode cL_does 307 = .ok (.iload 6, 2) := by decide +kernel
theorem dL_does_309 : decode cL_does 309 = .ok (.iconst 1, 1) := by decide +kernel
theorem dL_does_310 : decode cL_does 310 = .ok (.isub, 1) := by decide +kernel
theorem dL_does_311 : decode cL_does 311 = .ok (.goto 5, 3) := by decide +kernel
theorem dL_does_314 : decode cL_does 314 = .ok (.bipush (-4), 2) := by decide +kernel
theorem dL_does_316 : decode cL_does 316 = .ok (.if_icmp .ne 17, 3) := by decide +kernel
theorem dL_does_319 : decode cL_does 319 = .ok (.aload_n 0, 1) := by decide +kernel
theorem dL_does_320 : decode cL_does 320 = .ok (.iload 5, 2) := by decide +kernel
theorem dL_does_322 : decode cL_does 322 = .ok (.iconst 4, 1) := by decide +kernel
theorem dL_does_323 : decode cL_does 323 = .ok (.invokevirtual 34, 3) := by decide +kernel
theorem dL_does_326 : decode cL_does 326 = .ok (.ifCond .eq 7, 3) := by decide +kernel
theorem dL_does_329 : decode cL_does 329 = .ok (.iconst 1, 1) := by decide +kernel
theorem dL_does_330 : decode cL_does 330 = .ok (.goto 4, 3) := by decide +kernel
theorem dL_does_333 : decode cL_does 333 = .ok (.iconst 0, 1) := by decide +kernel
theorem dL_does_334 : decode cL_does 334 = .ok (.ireturn, 1) := by decide +kernel
theorem dL_does_335 : decode cL_does 335 = .ok (.aload_n 0, 1) := by decide +kernel
theorem dL_does_336 : decode cL_does 336 = .ok (.iload_n 2, 1) := by decide +kernel
theorem dL_does_337 : decode cL_does 337 = .ok (.invokestatic 94, 3) := by decide +kernel
theorem dL_does_340 : decode cL_does 340 = .ok (.ireturn, 1) := by decide +kernel
theorem dL_law_0 : decode cL_law 0 = .ok (.new 14, 3) := by decide +kernel
theorem dL_law_3 : decode cL_law 3 = .ok (.dup, 1) := by decide +kernel
theorem dL_law_4 : decode cL_law 4 = .ok (.invokespecial 97, 3) := by decide +kernel
theorem dL_law_7 : decode cL_law 7 = .ok (.astore_n 1, 1) := by decide +kernel
theorem dL_law_8 : decode cL_law 8 = .ok (.aload_n 1, 1) := by decide +kernel
theorem dL_law_9 : decode cL_law 9 = .ok (.invokevirtual 98, 3) := by decide +kernel
theorem dL_law_12 : decode cL_law 12 = .ok (.bipush (-5), 2) := by decide +kernel
theorem dL_law_14 : decode cL_law 14 = .ok (.if_icmp .ne 82, 3) := by decide +kernel
theorem dL_law_17 : decode cL_law 17 = .ok (.aload_n 1, 1) := by decide +kernel
theorem dL_law_18 : decode cL_law 18 = .ok (.invokevirtual 102, 3) := by decide +kernel
theorem dL_law_21 : decode cL_law 21 = .ok (.bipush (-5), 2) := by decide +kernel
theorem dL_law_23 : decode cL_law 23 = .ok (.if_icmp .ne 73, 3) := by decide +kernel
theorem dL_law_26 : decode cL_law 26 = .ok (.aload_n 1, 1) := by decide +kernel
theorem dL_law_27 : decode cL_law 27 = .ok (.invokevirtual 105, 3) := by decide +kernel
theorem dL_law_30 : decode cL_law 30 = .ok (.bipush (-100), 2) := by decide +kernel
theorem dL_law_32 : decode cL_law 32 = .ok (.if_icmp .ne 64, 3) := by decide +kernel
theorem dL_law_35 : decode cL_law 35 = .ok (.aload_n 1, 1) := by decide +kernel
theorem dL_law_36 : decode cL_law 36 = .ok (.iconst 0, 1) := by decide +kernel
theorem dL_law_37 : decode cL_law 37 = .ok (.invokevirtual 55, 3) := by decide +kernel
theorem dL_law_40 : decode cL_law 40 = .ok (.bipush (-5), 2) := by decide +kernel
theorem dL_law_42 : decode cL_law 42 = .ok (.if_icmp .ne 54, 3) := by decide +kernel
theorem dL_law_45 : decode cL_law 45 = .ok (.aload_n 1, 1) := by decide +kernel
theorem dL_law_46 : decode cL_law 46 = .ok (.iconst 0, 1) := by decide +kernel
theorem dL_law_47 : decode cL_law 47 = .ok (.invokevirtual 37, 3) := by decide +kernel
theorem dL_law_50 : decode cL_law 50 = .ok (.bipush (-5), 2) := by decide +kernel
theorem dL_law_52 : decode cL_law 52 = .ok (.if_icmp .ne 44, 3) := by decide +kernel
theorem dL_law_55 : decode cL_law 55 = .ok (.aload_n 1, 1) := by decide +kernel
theorem dL_law_56 : decode cL_law 56 = .ok (.iconst 0, 1) := by decide +kernel
theorem dL_law_57 : decode cL_law 57 = .ok (.iconst 0, 1) := by decide +kernel
theorem dL_law_58 : decode cL_law 58 = .ok (.invokevirtual 58, 3) := by decide +kernel
theorem dL_law_61 : decode cL_law 61 = .ok (.iconst (-1), 1) := by decide +kernel
theorem dL_law_62 : decode cL_law 62 = .ok (.if_icmp .ne 34, 3) := by decide +kernel
theorem dL_law_65 : decode cL_law 65 = .ok (.aload_n 1, 1) := by decide +kernel
theorem dL_law_66 : decode cL_law 66 = .ok (.iconst 0, 1) := by decide +kernel
theorem dL_law_67 : decode cL_law 67 = .ok (.invokevirtual 108, 3) := by decide +kernel
theorem dL_law_70 : decode cL_law 70 = .ok (.iconst (-1), 1) := by decide +kernel
theorem dL_law_71 : decode cL_law 71 = .ok (.if_icmp .ne 25, 3) := by decide +kernel
theorem dL_law_74 : decode cL_law 74 = .ok (.aload_n 1, 1) := by decide +kernel
theorem dL_law_75 : decode cL_law 75 = .ok (.bipush 15, 2) := by decide +kernel
theorem dL_law_77 : decode cL_law 77 = .ok (.invokevirtual 13, 3) := by decide +kernel
theorem dL_law_80 : decode cL_law 80 = .ok (.bipush (-2), 2) := by decide +kernel
theorem dL_law_82 : decode cL_law 82 = .ok (.if_icmp .ne 14, 3) := by decide +kernel
theorem dL_law_85 : decode cL_law 85 = .ok (.aload_n 1, 1) := by decide +kernel
theorem dL_law_86 : decode cL_law 86 = .ok (.iconst 5, 1) := by decide +kernel
theorem dL_law_87 : decode cL_law 87 = .ok (.iconst 0, 1) := by decide +kernel
theorem dL_law_88 : decode cL_law 88 = .ok (.invokevirtual 71, 3) := by decide +kernel
theorem dL_law_91 : decode cL_law 91 = .ok (.bipush (-2), 2) := by decide +kernel
theorem dL_law_93 : decode cL_law 93 = .ok (.if_icmp .eq 5, 3) := by decide +kernel
theorem dL_law_96 : decode cL_law 96 = .ok (.iconst 0, 1) := by decide +kernel
theorem dL_law_97 : decode cL_law 97 = .ok (.ireturn, 1) := by decide +kernel
theorem dL_law_98 : decode cL_law 98 = .ok (.iconst 0, 1) := by decide +kernel
theorem dL_law_99 : decode cL_law 99 = .ok (.istore_n 2, 1) := by decide +kernel
theorem dL_law_100 : decode cL_law 100 = .ok (.iload_n 2, 1) := by decide +kernel
theorem dL_law_101 : decode cL_law 101 = .ok (.bipush 24, 2) := by decide +kernel
theorem dL_law_103 : decode cL_law 103 = .ok (.if_icmp .ge 168, 3) := by decide +kernel
theorem dL_law_106 : decode cL_law 106 = .ok (.aload_n 0, 1) := by decide +kernel
theorem dL_law_107 : decode cL_law 107 = .ok (.iconst 2, 1) := by decide +kernel
theorem dL_law_108 : decode cL_law 108 = .ok (.iload_n 2, 1) := by decide +kernel
theorem dL_law_109 : decode cL_law 109 = .ok (.imul, 1) := by decide +kernel
theorem dL_law_110 : decode cL_law 110 = .ok (.invokestatic 111, 3) := by decide +kernel
theorem dL_law_113 : decode cL_law 113 = .ok (.istore_n 3, 1) := by decide +kernel
theorem dL_law_114 : decode cL_law 114 = .ok (.aload_n 0, 1) := by decide +kernel
theorem dL_law_115 : decode cL_law 115 = .ok (.iconst 2, 1) := by decide +kernel
theorem dL_law_116 : decode cL_law 116 = .ok (.iload_n 2, 1) := by decide +kernel
theorem dL_law_117 : decode cL_law 117 = .ok (.imul, 1) := by decide +kernel
theorem dL_law_118 : decode cL_law 118 = .ok (.iconst 1, 1) := by decide +kernel
theorem dL_law_119 : decode cL_law 119 = .ok (.iadd, 1) := by decide +kernel
theorem dL_law_120 : decode cL_law 120 = .ok (.invokestatic 111, 3) := by decide +kernel
theorem dL_law_123 : decode cL_law 123 = .ok (.istore 4, 2) := by decide +kernel
theorem dL_law_125 : decode cL_law 125 = .ok (.iload_n 3, 1) := by decide +kernel
theorem dL_law_126 : decode cL_law 126 = .ok (.bipush 12, 2) := by decide +kernel
theorem dL_law_128 : decode cL_law 128 = .ok (.ishr, 1) := by decide +kernel
theorem dL_law_129 : decode cL_law 129 = .ok (.bipush 14, 2) := by decide +kernel
theorem dL_law_131 : decode cL_law 131 = .ok (.invokestatic 40, 3) := by decide +kernel
theorem dL_law_134 : decode cL_law 134 = .ok (.istore 5, 2) := by decide +kernel
theorem dL_law_136 : decode cL_law 136 = .ok (.aload_n 1, 1) := by decide +kernel
theorem dL_law_137 : decode cL_law 137 = .ok (.bipush 13, 2) := by decide +kernel
theorem dL_law_139 : decode cL_law 139 = .ok (.invokevirtual 13, 3) := by decide +kernel
theorem dL_law_142 : decode cL_law 142 = .ok (.istore 6, 2) := by decide +kernel
theorem dL_law_144 : decode cL_law 144 = .ok (.iload 4, 2) := by decide +kernel
theorem dL_law_146 : decode cL_law 146 = .ok (.ldc 115, 2) := by decide +kernel
theorem dL_law_148 : decode cL_law 148 = .ok (.iand, 1) := by decide +kernel
theorem dL_law_149 : decode cL_law 149 = .ok (.ifCond .ne 13, 3) := by decide +kernel
theorem dL_law_152 : decode cL_law 152 = .ok (.iload 6, 2) := by decide +kernel
theorem dL_law_154 : decode cL_law 154 = .ok (.iconst 4, 1) := by decide +kernel
theorem dL_law_155 : decode cL_law 155 = .ok (.if_icmp .ge 7, 3) := by decide +kernel
theorem dL_law_158 : decode cL_law 158 = .ok (.iconst 1, 1) := by decide +kernel
theorem dL_law_159 : decode cL_law 159 = .ok (.goto 4, 3) := by decide +kernel
theorem dL_law_162 : decode cL_law 162 = .ok (.iconst 0, 1) := by decide +kernel
theorem dL_law_163 : decode cL_law 163 = .ok (.istore 7, 2) := by decide +kernel
theorem dL_law_165 : decode cL_law 165 = .ok (.iload 7, 2) := by decide +kernel
theorem dL_law_167 : decode cL_law 167 = .ok (.ifCond .eq 10, 3) := by decide +kernel
theorem dL_law_170 : decode cL_law 170 = .ok (.aload_n 1, 1) := by decide +kernel
theorem dL_law_171 : decode cL_law 171 = .ok (.invokestatic 116, 3) := by decide +kernel
theorem dL_law_174 : decode cL_law 174 = .ok (.goto 4, 3) := by decide +kernel
theorem dL_law_177 : decode cL_law 177 = .ok (.lconst 0, 1) := by decide +kernel
theorem dL_law_178 : decode cL_law 178 = .ok (.lstore 8, 2) := by decide +kernel
theorem dL_law_180 : decode cL_law 180 = .ok (.aload_n 1, 1) := by decide +kernel
theorem dL_law_181 : decode cL_law 181 = .ok (.iload 5, 2) := by decide +kernel
theorem dL_law_183 : decode cL_law 183 = .ok (.iload_n 3, 1) := by decide +kernel
theorem dL_law_184 : decode cL_law 184 = .ok (.iload 4, 2) := by decide +kernel
theorem dL_law_186 : decode cL_law 186 = .ok (.invokestatic 120, 3) := by decide +kernel
theorem dL_law_189 : decode cL_law 189 = .ok (.ifCond .eq 37, 3) := by decide +kernel
theorem dL_law_192 : decode cL_law 192 = .ok (.aload_n 1, 1) := by decide +kernel
theorem dL_law_193 : decode cL_law 193 = .ok (.invokestatic 124, 3) := by decide +kernel
theorem dL_law_196 : decode cL_law 196 = .ok (.ifCond .eq 30, 3) := by decide +kernel
theorem dL_law_199 : decode cL_law 199 = .ok (.aload_n 1, 1) := by decide +kernel
theorem dL_law_200 : decode cL_law 200 = .ok (.invokestatic 128, 3) := by decide +kernel
theorem dL_law_203 : decode cL_law 203 = .ok (.ifCond .eq 23, 3) := by decide +kernel
theorem dL_law_206 : decode cL_law 206 = .ok (.aload_n 1, 1) := by decide +kernel
theorem dL_law_207 : decode cL_law 207 = .ok (.bipush 9, 2) := by decide +kernel
theorem dL_law_209 : decode cL_law 209 = .ok (.invokevirtual 13, 3) := by decide +kernel
theorem dL_law_212 : decode cL_law 212 = .ok (.ifCond .le 16, 3) := by decide +kernel
theorem dL_law_215 : decode cL_law 215 = .ok (.aload_n 1, 1) := by decide +kernel
theorem dL_law_216 : decode cL_law 216 = .ok (.iload 4, 2) := by decide +kernel
theorem dL_law_218 : decode cL_law 218 = .ok (.iconst 2, 1) := by decide +kernel
theorem dL_law_219 : decode cL_law 219 = .ok (.ishr, 1) := by decide +kernel
theorem dL_law_220 : decode cL_law 220 = .ok (.invokestatic 131, 3) := by decide +kernel
theorem dL_law_223 : decode cL_law 223 = .ok (.ifCond .ne 5, 3) := by decide +kernel
theorem dL_law_226 : decode cL_law 226 = .ok (.iconst 0, 1) := by decide +kernel
theorem dL_law_227 : decode cL_law 227 = .ok (.ireturn, 1) := by decide +kernel
theorem dL_law_228 : decode cL_law 228 = .ok (.iload 7, 2) := by decide +kernel
theorem dL_law_230 : decode cL_law 230 = .ok (.ifCond .eq 35, 3) := by decide +kernel
theorem dL_law_233 : decode cL_law 233 = .ok (.aload_n 1, 1) := by decide +kernel
theorem dL_law_234 : decode cL_law 234 = .ok (.bipush 13, 2) := by decide +kernel
theorem dL_law_236 : decode cL_law 236 = .ok (.invokevirtual 13, 3) := by decide +kernel
theorem dL_law_239 : decode cL_law 239 = .ok (.iload 6, 2) := by decide +kernel
theorem dL_law_241 : decode cL_law 241 = .ok (.if_icmp .eq 24, 3) := by decide +kernel
theorem dL_law_244 : decode cL_law 244 = .ok (.aload_n 1, 1) := by decide +kernel
theorem dL_law_245 : decode cL_law 245 = .ok (.invokevirtual 98, 3) := by decide +kernel
theorem dL_law_248 : decode cL_law 248 = .ok (.iload 6, 2) := by decide +kernel
theorem dL_law_250 : decode cL_law 250 = .ok (.if_icmp .ne 13, 3) := by decide +kernel
theorem dL_law_253 : decode cL_law 253 = .ok (.aload_n 1, 1) := by decide +kernel
theorem dL_law_254 : decode cL_law 254 = .ok (.invokestatic 116, 3) := by decide +kernel
theorem dL_law_257 : decode cL_law 257 = .ok (.lload 8, 2) := by decide +kernel
theorem dL_law_259 : decode cL_law 259 = .ok (.lcmp, 1) := by decide +kernel
theorem dL_law_260 : decode cL_law 260 = .ok (.ifCond .eq 5, 3) := by decide +kernel
theorem dL_law_263 : decode cL_law 263 = .ok (.iconst 0, 1) := by decide +kernel
theorem dL_law_264 : decode cL_law 264 = .ok (.ireturn, 1) := by decide +kernel
theorem dL_law_265 : decode cL_law 265 = .ok (.iinc 2 1, 3) := by decide +kernel
theorem dL_law_268 : decode cL_law 268 = .ok (.goto (-168), 3) := by decide +kernel
theorem dL_law_271 : decode cL_law 271 = .ok (.iconst 1, 1) := by decide +kernel
theorem dL_law_272 : decode cL_law 272 = .ok (.ireturn, 1) := by decide +kernel
