theorem dL_cell_0 : decode cL_cell 0 = .ok (.iload_n 1, 1) := by decide +kernel
theorem dL_cell_1 : decode cL_cell 1 = .ok (.aload_n 0, 1) := by decide +kernel
theorem dL_cell_2 : decode cL_cell 2 = .ok (.arraylength, 1) := by decide +kernel
theorem dL_cell_3 : decode cL_cell 3 = .ok (.if_icmp .ge 9, 3) := by decide +kernel
theorem dL_cell_6 : decode cL_cell 6 = .ok (.aload_n 0, 1) := by decide +kernel
theorem dL_cell_7 : decode cL_cell 7 = .ok (.iload_n 1, 1) := by decide +kernel
theorem dL_cell_8 : decode cL_cell 8 = .ok (.iaload, 1) := by decide +kernel
theorem dL_cell_9 : decode cL_cell 9 = .ok (.goto 11, 3) := by decide +kernel
theorem dL_cell_12 : decode cL_cell 12 = .ok (.ldc 7, 2) := by decide +kernel
theorem dL_cell_14 : decode cL_cell 14 = .ok (.iload_n 1, 1) := by decide +kernel
theorem dL_cell_15 : decode cL_cell 15 = .ok (.imul, 1) := by decide +kernel
theorem dL_cell_16 : decode cL_cell 16 = .ok (.sipush 1511, 3) := by decide +kernel
theorem dL_cell_19 : decode cL_cell 19 = .ok (.iadd, 1) := by decide +kernel
theorem dL_cell_20 : decode cL_cell 20 = .ok (.ireturn, 1) := by decide +kernel
theorem dL_low_0 : decode cL_low 0 = .ok (.iload_n 0, 1) := by decide +kernel
theorem dL_low_1 : decode cL_low 1 = .ok (.ldc 8, 2) := by decide +kernel
theorem dL_low_3 : decode cL_low 3 = .ok (.iand, 1) := by decide +kernel
theorem dL_low_4 : decode cL_low 4 = .ok (.iload_n 1, 1) := by decide +kernel
theorem dL_low_5 : decode cL_low 5 = .ok (.irem, 1) := by decide +kernel
theorem dL_low_6 : decode cL_low 6 = .ok (.ireturn, 1) := by decide +kernel
theorem dL_digest_0 : decode cL_digest 0 = .ok (.ldc2_w 9, 3) := by decide +kernel
theorem dL_digest_3 : decode cL_digest 3 = .ok (.lstore_n 1, 1) := by decide +kernel
theorem dL_digest_4 : decode cL_digest 4 = .ok (.iconst 0, 1) := by decide +kernel
theorem dL_digest_5 : decode cL_digest 5 = .ok (.istore_n 3, 1) := by decide +kernel
theorem dL_digest_6 : decode cL_digest 6 = .ok (.iload_n 3, 1) := by decide +kernel
theorem dL_digest_7 : decode cL_digest 7 = .ok (.bipush 13, 2) := by decide +kernel
theorem dL_digest_9 : decode cL_digest 9 = .ok (.if_icmp .ge 22, 3) := by decide +kernel
theorem dL_digest_12 : decode cL_digest 12 = .ok (.ldc2_w 11, 3) := by decide +kernel
theorem dL_digest_15 : decode cL_digest 15 = .ok (.lload_n 1, 1) := by decide +kernel
theorem dL_digest_16 : decode cL_digest 16 = .ok (.lmul, 1) := by decide +kernel
theorem dL_digest_17 : decode cL_digest 17 = .ok (.aload_n 0, 1) := by decide +kernel
theorem dL_digest_18 : decode cL_digest 18 = .ok (.iload_n 3, 1) := by decide +kernel
theorem dL_digest_19 : decode cL_digest 19 = .ok (.invokevirtual 13, 3) := by decide +kernel
theorem dL_digest_22 : decode cL_digest 22 = .ok (.i2l, 1) := by decide +kernel
theorem dL_digest_23 : decode cL_digest 23 = .ok (.ladd, 1) := by decide +kernel
theorem dL_digest_24 : decode cL_digest 24 = .ok (.lstore_n 1, 1) := by decide +kernel
theorem dL_digest_25 : decode cL_digest 25 = .ok (.iinc 3 1, 3) := by decide +kernel
theorem dL_digest_28 : decode cL_digest 28 = .ok (.goto (-22), 3) := by decide +kernel
theorem dL_digest_31 : decode cL_digest 31 = .ok (.bipush 20, 2) := by decide +kernel
theorem dL_digest_33 : decode cL_digest 33 = .ok (.istore_n 3, 1) := by decide +kernel
theorem dL_digest_34 : decode cL_digest 34 = .ok (.iload_n 3, 1) := by decide +kernel
theorem dL_digest_35 : decode cL_digest 35 = .ok (.bipush 25, 2) := by decide +kernel
theorem dL_digest_37 : decode cL_digest 37 = .ok (.if_icmp .ge 22, 3) := by decide +kernel
theorem dL_digest_40 : decode cL_digest 40 = .ok (.ldc2_w 11, 3) := by decide +kernel
theorem dL_digest_43 : decode cL_digest 43 = .ok (.lload_n 1, 1) := by decide +kernel
theorem dL_digest_44 : decode cL_digest 44 = .ok (.lmul, 1) := by decide +kernel
theorem dL_digest_45 : decode cL_digest 45 = .ok (.aload_n 0, 1) := by decide +kernel
theorem dL_digest_46 : decode cL_digest 46 = .ok (.iload_n 3, 1) := by decide +kernel
theorem dL_digest_47 : decode cL_digest 47 = .ok (.invokevirtual 13, 3) := by decide +kernel
theorem dL_digest_50 : decode cL_digest 50 = .ok (.i2l, 1) := by decide +kernel
theorem dL_digest_51 : decode cL_digest 51 = .ok (.ladd, 1) := by decide +kernel
theorem dL_digest_52 : decode cL_digest 52 = .ok (.lstore_n 1, 1) := by decide +kernel
theorem dL_digest_53 : decode cL_digest 53 = .ok (.iinc 3 1, 3) := by decide +kernel
theorem dL_digest_56 : decode cL_digest 56 = .ok (.goto (-22), 3) := by decide +kernel
theorem dL_digest_59 : decode cL_digest 59 = .ok (.iconst 0, 1) := by decide +kernel
theorem dL_digest_60 : decode cL_digest 60 = .ok (.istore_n 3, 1) := by decide +kernel
theorem dL_digest_61 : decode cL_digest 61 = .ok (.iload_n 3, 1) := by decide +kernel
theorem dL_digest_62 : decode cL_digest 62 = .ok (.iconst 4, 1) := by decide +kernel
theorem dL_digest_63 : decode cL_digest 63 = .ok (.if_icmp .ge 99, 3) := by decide +kernel
theorem dL_digest_66 : decode cL_digest 66 = .ok (.iconst 0, 1) := by decide +kernel
theorem dL_digest_67 : decode cL_digest 67 = .ok (.istore 4, 2) := by decide +kernel
theorem dL_digest_69 : decode cL_digest 69 = .ok (.aload_n 0, 1) := by decide +kernel
theorem dL_digest_70 : decode cL_digest 70 = .ok (.iload_n 3, 1) := by decide +kernel
theorem dL_digest_71 : decode cL_digest 71 = .ok (.iload 4, 2) := by decide +kernel
theorem dL_digest_73 : decode cL_digest 73 = .ok (.invokevirtual 19, 3) := by decide +kernel
theorem dL_digest_76 : decode cL_digest 76 = .ok (.ifCond .lt 80, 3) := by decide +kernel
theorem dL_digest_79 : decode cL_digest 79 = .ok (.aload_n 0, 1) := by decide +kernel
theorem dL_digest_80 : decode cL_digest 80 = .ok (.iload_n 3, 1) := by decide +kernel
theorem dL_digest_81 : decode cL_digest 81 = .ok (.iload 4, 2) := by decide +kernel
theorem dL_digest_83 : decode cL_digest 83 = .ok (.invokevirtual 19, 3) := by decide +kernel
theorem dL_digest_86 : decode cL_digest 86 = .ok (.istore 5, 2) := by decide +kernel
theorem dL_digest_88 : decode cL_digest 88 = .ok (.ldc2_w 11, 3) := by decide +kernel
theorem dL_digest_91 : decode cL_digest 91 = .ok (.lload_n 1, 1) := by decide +kernel
theorem dL_digest_92 : decode cL_digest 92 = .ok (.lmul, 1) := by decide +kernel
theorem dL_digest_93 : decode cL_digest 93 = .ok (.iload 5, 2) := by decide +kernel
theorem dL_digest_95 : decode cL_digest 95 = .ok (.i2l, 1) := by decide +kernel
theorem dL_digest_96 : decode cL_digest 96 = .ok (.ladd, 1) := by decide +kernel
theorem dL_digest_97 : decode cL_digest 97 = .ok (.ldc2_w 23, 3) := by decide +kernel
theorem dL_digest_100 : decode cL_digest 100 = .ok (.aload_n 0, 1) := by decide +kernel
theorem dL_digest_101 : decode cL_digest 101 = .ok (.iload 5, 2) := by decide +kernel
theorem dL_digest_103 : decode cL_digest 103 = .ok (.iconst 0, 1) := by decide +kernel
theorem dL_digest_104 : decode cL_digest 104 = .ok (.invokevirtual 25, 3) := by decide +kernel
theorem dL_digest_107 : decode cL_digest 107 = .ok (.i2l, 1) := by decide +kernel
theorem dL_digest_108 : decode cL_digest 108 = .ok (.lmul, 1) := by decide +kernel
theorem dL_digest_109 : decode cL_digest 109 = .ok (.ladd, 1) := by decide +kernel
theorem dL_digest_110 : decode cL_digest 110 = .ok (.ldc2_w 28, 3) := by decide +kernel
theorem dL_digest_113 : decode cL_digest 113 = .ok (.aload_n 0, 1) := by decide +kernel
theorem dL_digest_114 : decode cL_digest 114 = .ok (.iload 5, 2) := by decide +kernel
theorem dL_digest_116 : decode cL_digest 116 = .ok (.iconst 1, 1) := by decide +kernel
theorem dL_digest_117 : decode cL_digest 117 = .ok (.invokevirtual 25, 3) := by decide +kernel
theorem dL_digest_120 : decode cL_digest 120 = .ok (.i2l, 1) := by decide +kernel
theorem dL_digest_121 : decode cL_digest 121 = .ok (.lmul, 1) := by decide +kernel
theorem dL_digest_122 : decode cL_digest 122 = .ok (.ladd, 1) := by decide +kernel
theorem dL_digest_123 : decode cL_digest 123 = .ok (.ldc2_w 30, 3) := by decide +kernel
theorem dL_digest_126 : decode cL_digest 126 = .ok (.aload_n 0, 1) := by decide +kernel
theorem dL_digest_127 : decode cL_digest 127 = .ok (.iload 5, 2) := by decide +kernel
theorem dL_digest_129 : decode cL_digest 129 = .ok (.iconst 2, 1) := by decide +kernel
theorem dL_digest_130 : decode cL_digest 130 = .ok (.invokevirtual 25, 3) := by decide +kernel
theorem dL_digest_133 : decode cL_digest 133 = .ok (.i2l, 1) := by decide +kernel
theorem dL_digest_134 : decode cL_digest 134 = .ok (.lmul, 1) := by decide +kernel
theorem dL_digest_135 : decode cL_digest 135 = .ok (.ladd, 1) := by decide +kernel
theorem dL_digest_136 : decode cL_digest 136 = .ok (.ldc2_w 32, 3) := by decide +kernel
theorem dL_digest_139 : decode cL_digest 139 = .ok (.aload_n 0, 1) := by decide +kernel
theorem dL_digest_140 : decode cL_digest 140 = .ok (.iload 5, 2) := by decide +kernel
theorem dL_digest_142 : decode cL_digest 142 = .ok (.iconst 5, 1) := by decide +kernel
theorem dL_digest_143 : decode cL_digest 143 = .ok (.invokevirtual 25, 3) := by decide +kernel
theorem dL_digest_146 : decode cL_digest 146 = .ok (.i2l, 1) := by decide +kernel
theorem dL_digest_147 : decode cL_digest 147 = .ok (.lmul, 1) := by decide +kernel
theorem dL_digest_148 : decode cL_digest 148 = .ok (.ladd, 1) := by decide +kernel
theorem dL_digest_149 : decode cL_digest 149 = .ok (.lstore_n 1, 1) := by decide +kernel
theorem dL_digest_150 : decode cL_digest 150 = .ok (.iinc 4 1, 3) := by decide +kernel
theorem dL_digest_153 : decode cL_digest 153 = .ok (.goto (-84), 3) := by decide +kernel
theorem dL_digest_156 : decode cL_digest 156 = .ok (.iinc 3 1, 3) := by decide +kernel
theorem dL_digest_159 : decode cL_digest 159 = .ok (.goto (-98), 3) := by decide +kernel
theorem dL_digest_162 : decode cL_digest 162 = .ok (.iconst 0, 1) := by decide +kernel
theorem dL_digest_163 : decode cL_digest 163 = .ok (.istore_n 3, 1) := by decide +kernel
theorem dL_digest_164 : decode cL_digest 164 = .ok (.iload_n 3, 1) := by decide +kernel
theorem dL_digest_165 : decode cL_digest 165 = .ok (.aload_n 0, 1) := by decide +kernel
theorem dL_digest_166 : decode cL_digest 166 = .ok (.bipush 9, 2) := by decide +kernel
theorem dL_digest_168 : decode cL_digest 168 = .ok (.invokevirtual 13, 3) := by decide +kernel
theorem dL_digest_171 : decode cL_digest 171 = .ok (.if_icmp .ge 40, 3) := by decide +kernel
theorem dL_digest_174 : decode cL_digest 174 = .ok (.iconst 0, 1) := by decide +kernel
theorem dL_digest_175 : decode cL_digest 175 = .ok (.istore 4, 2) := by decide +kernel
theorem dL_digest_177 : decode cL_digest 177 = .ok (.iload 4, 2) := by decide +kernel
theorem dL_digest_179 : decode cL_digest 179 = .ok (.bipush 8, 2) := by decide +kernel
theorem dL_digest_181 : decode cL_digest 181 = .ok (.if_icmp .ge 24, 3) := by decide +kernel
theorem dL_digest_184 : decode cL_digest 184 = .ok (.ldc2_w 11, 3) := by decide +kernel
theorem dL_digest_187 : decode cL_digest 187 = .ok (.lload_n 1, 1) := by decide +kernel
theorem dL_digest_188 : decode cL_digest 188 = .ok (.lmul, 1) := by decide +kernel
theorem dL_digest_189 : decode cL_digest 189 = .ok (.aload_n 0, 1) := by decide +kernel
theorem dL_digest_190 : decode cL_digest 190 = .ok (.iload_n 3, 1) := by decide +kernel
theorem dL_digest_191 : decode cL_digest 191 = .ok (.iload 4, 2) := by decide +kernel
theorem dL_digest_193 : decode cL_digest 193 = .ok (.invokevirtual 34, 3) := by decide +kernel
theorem dL_digest_196 : decode cL_digest 196 = .ok (.i2l, 1) := by decide +kernel
theorem dL_digest_197 : decode cL_digest 197 = .ok (.ladd, 1) := by decide +kernel
theorem dL_digest_198 : decode cL_digest 198 = .ok (.lstore_n 1, 1) := by decide +kernel
theorem dL_digest_199 : decode cL_digest 199 = .ok (.iinc 4 1, 3) := by decide +kernel
theorem dL_digest_202 : decode cL_digest 202 = .ok (.goto (-25), 3) := by decide +kernel
theorem dL_digest_205 : decode cL_digest 205 = .ok (.iinc 3 1, 3) := by decide +kernel
theorem dL_digest_208 : decode cL_digest 208 = .ok (.goto (-44), 3) := by decide +kernel
theorem dL_digest_211 : decode cL_digest 211 = .ok (.lload_n 1, 1) := by decide +kernel
theorem dL_digest_212 : decode cL_digest 212 = .ok (.lreturn, 1) := by decide +kernel
theorem dL_racks_0 : decode cL_racks 0 = .ok (.iconst 0, 1) := by decide +kernel
theorem dL_racks_1 : decode cL_racks 1 = .ok (.istore_n 1, 1) := by decide +kernel
theorem dL_racks_2 : decode cL_racks 2 = .ok (.iconst 0, 1) := by decide +kernel
theorem dL_racks_3 : decode cL_racks 3 = .ok (.istore_n 2, 1) := by decide +kernel
theorem dL_racks_4 : decode cL_racks 4 = .ok (.iconst 0, 1) := by decide +kernel
theorem dL_racks_5 : decode cL_racks 5 = .ok (.istore_n 3, 1) := by decide +kernel
theorem dL_racks_6 : decode cL_racks 6 = .ok (.iload_n 3, 1) := by decide +kernel
theorem dL_racks_7 : decode cL_racks 7 = .ok (.iconst 4, 1) := by decide +kernel
theorem dL_racks_8 : decode cL_racks 8 = .ok (.if_icmp .ge 151, 3) := by decide +kernel
theorem dL_racks_11 : decode cL_racks 11 = .ok (.iconst 0, 1) := by decide +kernel
theorem dL_racks_12 : decode cL_racks 12 = .ok (.istore 4, 2) := by decide +kernel
theorem dL_racks_14 : decode cL_racks 14 = .ok (.aload_n 0, 1) := by decide +kernel
theorem dL_racks_15 : decode cL_racks 15 = .ok (.iload_n 3, 1) := by decide +kernel
theorem dL_racks_16 : decode cL_racks 16 = .ok (.iload 4, 2) := by decide +kernel
theorem dL_racks_18 : decode cL_racks 18 = .ok (.invokevirtual 19, 3) := by decide +kernel
theorem dL_racks_21 : decode cL_racks 21 = .ok (.ifCond .lt 100, 3) := by decide +kernel
theorem dL_racks_24 : decode cL_racks 24 = .ok (.aload_n 0, 1) := by decide +kernel
theorem dL_racks_25 : decode cL_racks 25 = .ok (.iload_n 3, 1) := by decide +kernel
theorem dL_racks_26 : decode cL_racks 26 = .ok (.iload 4, 2) := by decide +kernel
theorem dL_racks_28 : decode cL_racks 28 = .ok (.invokevirtual 19, 3) := by decide +kernel
theorem dL_racks_31 : decode cL_racks 31 = .ok (.istore 5, 2) := by decide +kernel
theorem dL_racks_33 : decode cL_racks 33 = .ok (.aload_n 0, 1) := by decide +kernel
theorem dL_racks_34 : decode cL_racks 34 = .ok (.iload 5, 2) := by decide +kernel
theorem dL_racks_36 : decode cL_racks 36 = .ok (.iconst 3, 1) := by decide +kernel
theorem dL_racks_37 : decode cL_racks 37 = .ok (.invokevirtual 25, 3) := by decide +kernel
theorem dL_racks_40 : decode cL_racks 40 = .ok (.iload_n 3, 1) := by decide +kernel
theorem dL_racks_41 : decode cL_racks 41 = .ok (.if_icmp .ne 51, 3) := by decide +kernel
theorem dL_racks_44 : decode cL_racks 44 = .ok (.aload_n 0, 1) := by decide +kernel
theorem dL_racks_45 : decode cL_racks 45 = .ok (.iload 5, 2) := by decide +kernel
theorem dL_racks_47 : decode cL_racks 47 = .ok (.iconst 4, 1) := by decide +kernel
theorem dL_racks_48 : decode cL_racks 48 = .ok (.invokevirtual 25, 3) := by decide +kernel
theorem dL_racks_51 : decode cL_racks 51 = .ok (.iload 4, 2) := by decide +kernel
theorem dL_racks_53 : decode cL_racks 53 = .ok (.if_icmp .ne 39, 3) := by decide +kernel
theorem dL_racks_56 : decode cL_racks 56 = .ok (.iload 5, 2) := by decide +kernel
theorem dL_racks_58 : decode cL_racks 58 = .ok (.aload_n 0, 1) := by decide +kernel
theorem dL_racks_59 : decode cL_racks 59 = .ok (.bipush 12, 2) := by decide +kernel
theorem dL_racks_61 : decode cL_racks 61 = .ok (.invokevirtual 13, 3) := by decide +kernel
theorem dL_racks_64 : decode cL_racks 64 = .ok (.if_icmp .ge 28, 3) := by decide +kernel
theorem dL_racks_67 : decode cL_racks 67 = .ok (.aload_n 0, 1) := by decide +kernel
theorem dL_racks_68 : decode cL_racks 68 = .ok (.iload 5, 2) := by decide +kernel
theorem dL_racks_70 : decode cL_racks 70 = .ok (.iconst 5, 1) := by decide +kernel
theorem dL_racks_71 : decode cL_racks 71 = .ok (.invokevirtual 25, 3) := by decide +kernel
theorem dL_racks_74 : decode cL_racks 74 = .ok (.iload 5, 2) := by decide +kernel
theorem dL_racks_76 : decode cL_racks 76 = .ok (.if_icmp .ge 16, 3) := by decide +kernel
theorem dL_racks_79 : decode cL_racks 79 = .ok (.aload_n 0, 1) := by decide +kernel
theorem dL_racks_80 : decode cL_racks 80 = .ok (.iload 5, 2) := by decide +kernel
theorem dL_racks_82 : decode cL_racks 82 = .ok (.bipush 6, 2) := by decide +kernel
theorem dL_racks_84 : decode cL_racks 84 = .ok (.invokevirtual 25, 3) := by decide +kernel
theorem dL_racks_87 : decode cL_racks 87 = .ok (.bipush (-2), 2) := by decide +kernel
theorem dL_racks_89 : decode cL_racks 89 = .ok (.if_icmp .eq 5, 3) := by decide +kernel
theorem dL_racks_92 : decode cL_racks 92 = .ok (.iconst 0, 1) := by decide +kernel
theorem dL_racks_93 : decode cL_racks 93 = .ok (.ireturn, 1) := by decide +kernel
theorem dL_racks_94 : decode cL_racks 94 = .ok (.iload_n 2, 1) := by decide +kernel
theorem dL_racks_95 : decode cL_racks 95 = .ok (.aload_n 0, 1) := by decide +kernel
theorem dL_racks_96 : decode cL_racks 96 = .ok (.iload 5, 2) := by decide +kernel
theorem dL_racks_98 : decode cL_racks 98 = .ok (.iconst 1, 1) := by decide +kernel
theorem dL_racks_99 : decode cL_racks 99 = .ok (.invokevirtual 25, 3) := by decide +kernel
theorem dL_racks_102 : decode cL_racks 102 = .ok (.aload_n 0, 1) := by decide +kernel
theorem dL_racks_103 : decode cL_racks 103 = .ok (.iload 5, 2) := by decide +kernel
theorem dL_racks_105 : decode cL_racks 105 = .ok (.iconst 2, 1) := by decide +kernel
theorem dL_racks_106 : decode cL_racks 106 = .ok (.invokevirtual 25, 3) := by decide +kernel
theorem dL_racks_109 : decode cL_racks 109 = .ok (.imul, 1) := by decide +kernel
theorem dL_racks_110 : decode cL_racks 110 = .ok (.iadd, 1) := by decide +kernel
theorem dL_racks_111 : decode cL_racks 111 = .ok (.istore_n 2, 1) := by decide +kernel
theorem dL_racks_112 : decode cL_racks 112 = .ok (.iinc 1 1, 3) := by decide +kernel
theorem dL_racks_115 : decode cL_racks 115 = .ok (.iinc 4 1, 3) := by decide +kernel
theorem dL_racks_118 : decode cL_racks 118 = .ok (.goto (-104), 3) := by decide +kernel
theorem dL_racks_121 : decode cL_racks 121 = .ok (.iload 4, 2) := by decide +kernel
theorem dL_racks_123 : decode cL_racks 123 = .ok (.bipush 8, 2) := by decide +kernel
theorem dL_racks_125 : decode cL_racks 125 = .ok (.if_icmp .gt 26, 3) := by decide +kernel
theorem dL_racks_128 : decode cL_racks 128 = .ok (.aload_n 0, 1) := by decide +kernel
theorem dL_racks_129 : decode cL_racks 129 = .ok (.iload_n 3, 1) := by decide +kernel
theorem dL_racks_130 : decode cL_racks 130 = .ok (.iload 4, 2) := by decide +kernel
theorem dL_racks_132 : decode cL_racks 132 = .ok (.invokevirtual 19, 3) := by decide +kernel
theorem dL_racks_135 : decode cL_racks 135 = .ok (.bipush (-5), 2) := by decide +kernel
theorem dL_racks_137 : decode cL_racks 137 = .ok (.if_icmp .ne 14, 3) := by decide +kernel
theorem dL_racks_140 : decode cL_racks 140 = .ok (.aload_n 0, 1) := by decide +kernel
theorem dL_racks_141 : decode cL_racks 141 = .ok (.iload_n 3, 1) := by decide +kernel
theorem dL_racks_142 : decode cL_racks 142 = .ok (.iconst (-1), 1) := by decide +kernel
theorem dL_racks_143 : decode cL_racks 143 = .ok (.invokevirtual 19, 3) := by decide +kernel
theorem dL_racks_146 : decode cL_racks 146 = .ok (.bipush (-2), 2) := by decide +kernel
theorem dL_racks_148 : decode cL_racks 148 = .ok (.if_icmp .eq 5, 3) := by decide +kernel
theorem dL_racks_151 : decode cL_racks 151 = .ok (.iconst 0, 1) := by decide +kernel
theorem dL_racks_152 : decode cL_racks 152 = .ok (.ireturn, 1) := by decide +kernel
theorem dL_racks_153 : decode cL_racks 153 = .ok (.iinc 3 1, 3) := by decide +kernel
theorem dL_racks_156 : decode cL_racks 156 = .ok (.goto (-150), 3) := by decide +kernel
theorem dL_racks_159 : decode cL_racks 159 = .ok (.iload_n 2, 1) := by decide +kernel
theorem dL_racks_160 : decode cL_racks 160 = .ok (.aload_n 0, 1) := by decide +kernel
theorem dL_racks_161 : decode cL_racks 161 = .ok (.iconst 4, 1) := by decide +kernel
theorem dL_racks_162 : decode cL_racks 162 = .ok (.invokevirtual 13, 3) := by decide +kernel
theorem dL_racks_165 : decode cL_racks 165 = .ok (.iadd, 1) := by decide +kernel
theorem dL_racks_166 : decode cL_racks 166 = .ok (.aload_n 0, 1) := by decide +kernel
theorem dL_racks_167 : decode cL_racks 167 = .ok (.iconst 5, 1) := by decide +kernel
theorem dL_racks_168 : decode cL_racks 168 = .ok (.invokevirtual 13, 3) := by decide +kernel
theorem dL_racks_171 : decode cL_racks 171 = .ok (.iadd, 1) := by decide +kernel
theorem dL_racks_172 : decode cL_racks 172 = .ok (.aload_n 0, 1) := by decide +kernel
theorem dL_racks_173 : decode cL_racks 173 = .ok (.bipush 6, 2) := by decide +kernel
theorem dL_racks_175 : decode cL_racks 175 = .ok (.invokevirtual 13, 3) := by decide +kernel
theorem dL_racks_178 : decode cL_racks 178 = .ok (.iadd, 1) := by decide +kernel
theorem dL_racks_179 : decode cL_racks 179 = .ok (.aload_n 0, 1) := by decide +kernel
theorem dL_racks_180 : decode cL_racks 180 = .ok (.bipush 7, 2) := by decide +kernel
theorem dL_racks_182 : decode cL_racks 182 = .ok (.invokevirtual 13, 3) := by decide +kernel
theorem dL_racks_185 : decode cL_racks 185 = .ok (.iadd, 1) := by decide +kernel
theorem dL_racks_186 : decode cL_racks 186 = .ok (.istore_n 3, 1) := by decide +kernel
theorem dL_racks_187 : decode cL_racks 187 = .ok (.iload_n 1, 1) := by decide +kernel
theorem dL_racks_188 : decode cL_racks 188 = .ok (.aload_n 0, 1) := by decide +kernel
theorem dL_racks_189 : decode cL_racks 189 = .ok (.iconst 1, 1) := by decide +kernel
theorem dL_racks_190 : decode cL_racks 190 = .ok (.invokevirtual 13, 3) := by decide +kernel
theorem dL_racks_193 : decode cL_racks 193 = .ok (.if_icmp .ne 50, 3) := by decide +kernel
theorem dL_racks_196 : decode cL_racks 196 = .ok (.iload_n 2, 1) := by decide +kernel
theorem dL_racks_197 : decode cL_racks 197 = .ok (.aload_n 0, 1) := by decide +kernel
theorem dL_racks_198 : decode cL_racks 198 = .ok (.iconst 2, 1) := by decide +kernel
theorem dL_racks_199 : decode cL_racks 199 = .ok (.invokevirtual 13, 3) := by decide +kernel
theorem dL_racks_202 : decode cL_racks 202 = .ok (.if_icmp .ne 41, 3) := by decide +kernel
theorem dL_racks_205 : decode cL_racks 205 = .ok (.iload_n 3, 1) := by decide +kernel
theorem dL_racks_206 : decode cL_racks 206 = .ok (.aload_n 0, 1) := by decide +kernel
theorem dL_racks_207 : decode cL_racks 207 = .ok (.iconst 3, 1) := by decide +kernel
theorem dL_racks_208 : decode cL_racks 208 = .ok (.invokevirtual 13, 3) := by decide +kernel
theorem dL_racks_211 : decode cL_racks 211 = .ok (.if_icmp .ne 32, 3) := by decide +kernel
theorem dL_racks_214 : decode cL_racks 214 = .ok (.aload_n 0, 1) := by decide +kernel
theorem dL_racks_215 : decode cL_racks 215 = .ok (.iconst 4, 1) := by decide +kernel
theorem dL_racks_216 : decode cL_racks 216 = .ok (.iconst 0, 1) := by decide +kernel
theorem dL_racks_217 : decode cL_racks 217 = .ok (.invokevirtual 19, 3) := by decide +kernel
theorem dL_racks_220 : decode cL_racks 220 = .ok (.iconst (-1), 1) := by decide +kernel
theorem dL_racks_221 : decode cL_racks 221 = .ok (.if_icmp .ne 22, 3) := by decide +kernel
theorem dL_racks_224 : decode cL_racks 224 = .ok (.aload_n 0, 1) := by decide +kernel
theorem dL_racks_225 : decode cL_racks 225 = .ok (.aload_n 0, 1) := by decide +kernel
theorem dL_racks_226 : decode cL_racks 226 = .ok (.bipush 12, 2) := by decide +kernel
theorem dL_racks_228 : decode cL_racks 228 = .ok (.invokevirtual 13, 3) := by decide +kernel
theorem dL_racks_231 : decode cL_racks 231 = .ok (.iconst 0, 1) := by decide +kernel
theorem dL_racks_232 : decode cL_racks 232 = .ok (.invokevirtual 25, 3) := by decide +kernel
theorem dL_racks_235 : decode cL_racks 235 = .ok (.iconst (-1), 1) := by decide +kernel
theorem dL_racks_236 : decode cL_racks 236 = .ok (.if_icmp .ne 7, 3) := by decide +kernel
theorem dL_racks_239 : decode cL_racks 239 = .ok (.iconst 1, 1) := by decide +kernel
theorem dL_racks_240 : decode cL_racks 240 = .ok (.goto 4, 3) := by decide +kernel
theorem dL_racks_243 : decode cL_racks 243 = .ok (.iconst 0, 1) := by decide +kernel
theorem dL_racks_244 : decode cL_racks 244 = .ok (.ireturn, 1) := by decide +kernel
theorem dL_orders_0 : decode cL_orders 0 = .ok (.aload_n 0, 1) := by decide +kernel
theorem dL_orders_1 : decode cL_orders 1 = .ok (.bipush 9, 2) := by decide +kernel
theorem dL_orders_3 : decode cL_orders 3 = .ok (.invokevirtual 13, 3) := by decide +kernel
theorem dL_orders_6 : decode cL_orders 6 = .ok (.istore_n 1, 1) := by decide +kernel
theorem dL_orders_7 : decode cL_orders 7 = .ok (.iconst 0, 1) := by decide +kernel
theorem dL_orders_8 : decode cL_orders 8 = .ok (.istore_n 2, 1) := by decide +kernel
theorem dL_orders_9 : decode cL_orders 9 = .ok (.iconst 0, 1) := by decide +kernel
theorem dL_orders_10 : decode cL_orders 10 = .ok (.istore_n 3, 1) := by decide +kernel
theorem dL_orders_11 : decode cL_orders 11 = .ok (.iconst 0, 1) := by decide +kernel
theorem dL_orders_12 : decode cL_orders 12 = .ok (.istore 4, 2) := by decide +kernel
theorem dL_orders_14 : decode cL_orders 14 = .ok (.iconst 0, 1) := by decide +kernel
theorem dL_orders_15 : decode cL_orders 15 = .ok (.istore 5, 2) := by decide +kernel
theorem dL_orders_17 : decode cL_orders 17 = .ok (.iload 5, 2) := by decide +kernel
theorem dL_orders_19 : decode cL_orders 19 = .ok (.iload_n 1, 1) := by decide +kernel
theorem dL_orders_20 : decode cL_orders 20 = .ok (.if_icmp .ge 212, 3) := by decide +kernel
theorem dL_orders_23 : decode cL_orders 23 = .ok (.aload_n 0, 1) := by decide +kernel
theorem dL_orders_24 : decode cL_orders 24 = .ok (.iload 5, 2) := by decide +kernel
theorem dL_orders_26 : decode cL_orders 26 = .ok (.iconst 4, 1) := by decide +kernel
theorem dL_orders_27 : decode cL_orders 27 = .ok (.invokevirtual 34, 3) := by decide +kernel
theorem dL_orders_30 : decode cL_orders 30 = .ok (.istore 6, 2) := by decide +kernel
theorem dL_orders_32 : decode cL_orders 32 = .ok (.aload_n 0, 1) := by decide +kernel
theorem dL_orders_33 : decode cL_orders 33 = .ok (.iload 5, 2) := by decide +kernel
theorem dL_orders_35 : decode cL_orders 35 = .ok (.bipush 6, 2) := by decide +kernel
theorem dL_orders_37 : decode cL_orders 37 = .ok (.invokevirtual 34, 3) := by decide +kernel
theorem dL_orders_40 : decode cL_orders 40 = .ok (.istore 7, 2) := by decide +kernel
theorem dL_orders_42 : decode cL_orders 42 = .ok (.iload_n 2, 1) := by decide +kernel
theorem dL_orders_43 : decode cL_orders 43 = .ok (.iload 6, 2) := by decide +kernel
theorem dL_orders_45 : decode cL_orders 45 = .ok (.ifCond .ne 7, 3) := by decide +kernel
theorem dL_orders_48 : decode cL_orders 48 = .ok (.iconst 1, 1) := by decide +kernel
theorem dL_orders_49 : decode cL_orders 49 = .ok (.goto 4, 3) := by decide +kernel
theorem dL_orders_52 : decode cL_orders 52 = .ok (.iconst 0, 1) := by decide +kernel
theorem dL_orders_53 : decode cL_orders 53 = .ok (.iadd, 1) := by decide +kernel
theorem dL_orders_54 : decode cL_orders 54 = .ok (.istore_n 2, 1) := by decide +kernel
theorem dL_orders_55 : decode cL_orders 55 = .ok (.iload_n 3, 1) := by decide +kernel
theorem dL_orders_56 : decode cL_orders 56 = .ok (.aload_n 0, 1) := by decide +kernel
theorem dL_orders_57 : decode cL_orders 57 = .ok (.iload 5, 2) := by decide +kernel
theorem dL_orders_59 : decode cL_orders 59 = .ok (.bipush 7, 2) := by decide +kernel
theorem dL_orders_61 : decode cL_orders 61 = .ok (.invokevirtual 34, 3) := by decide +kernel
theorem dL_orders_64 : decode cL_orders 64 = .ok (.iadd, 1) := by decide +kernel
theorem dL_orders_65 : decode cL_orders 65 = .ok (.istore_n 3, 1) := by decide +kernel
theorem dL_orders_66 : decode cL_orders 66 = .ok (.iload 4, 2) := by decide +kernel
theorem dL_orders_68 : decode cL_orders 68 = .ok (.iload 6, 2) := by decide +kernel
theorem dL_orders_70 : decode cL_orders 70 = .ok (.iconst 1, 1) := by decide +kernel
theorem dL_orders_71 : decode cL_orders 71 = .ok (.if_icmp .ne 21, 3) := by decide +kernel
theorem dL_orders_74 : decode cL_orders 74 = .ok (.aload_n 0, 1) := by decide +kernel
theorem dL_orders_75 : decode cL_orders 75 = .ok (.iload 5, 2) := by decide +kernel
theorem dL_orders_77 : decode cL_orders 77 = .ok (.iconst 1, 1) := by decide +kernel
theorem dL_orders_78 : decode cL_orders 78 = .ok (.invokevirtual 34, 3) := by decide +kernel
theorem dL_orders_81 : decode cL_orders 81 = .ok (.aload_n 0, 1) := by decide +kernel
theorem dL_orders_82 : decode cL_orders 82 = .ok (.iload 5, 2) := by decide +kernel
theorem dL_orders_84 : decode cL_orders 84 = .ok (.iconst 2, 1) := by decide +kernel
theorem dL_orders_85 : decode cL_orders 85 = .ok (.invokevirtual 34, 3) := by decide +kernel
theorem dL_orders_88 : decode cL_orders 88 = .ok (.imul, 1) := by decide +kernel
theorem dL_orders_89 : decode cL_orders 89 = .ok (.goto 4, 3) := by decide +kernel
theorem dL_orders_92 : decode cL_orders 92 = .ok (.iconst 0, 1) := by decide +kernel
theorem dL_orders_93 : decode cL_orders 93 = .ok (.iadd, 1) := by decide +kernel
theorem dL_orders_94 : decode cL_orders 94 = .ok (.istore 4, 2) := by decide +kernel
theorem dL_orders_96 : decode cL_orders 96 = .ok (.iload 6, 2) := by decide +kernel
theorem dL_orders_98 : decode cL_orders 98 = .ok (.ifCond .ne 26, 3) := by decide +kernel
theorem dL_orders_101 : decode cL_orders 101 = .ok (.aload_n 0, 1) := by decide +kernel
theorem dL_orders_102 : decode cL_orders 102 = .ok (.iload 5, 2) := by decide +kernel
theorem dL_orders_104 : decode cL_orders 104 = .ok (.iconst 3, 1) := by decide +kernel
theorem dL_orders_105 : decode cL_orders 105 = .ok (.invokevirtual 34, 3) := by decide +kernel
theorem dL_orders_108 : decode cL_orders 108 = .ok (.aload_n 0, 1) := by decide +kernel
theorem dL_orders_109 : decode cL_orders 109 = .ok (.iconst 0, 1) := by decide +kernel
theorem dL_orders_110 : decode cL_orders 110 = .ok (.invokevirtual 13, 3) := by decide +kernel
theorem dL_orders_113 : decode cL_orders 113 = .ok (.if_icmp .ge 7, 3) := by decide +kernel
theorem dL_orders_116 : decode cL_orders 116 = .ok (.iconst 1, 1) := by decide +kernel
theorem dL_orders_117 : decode cL_orders 117 = .ok (.goto 30, 3) := by decide +kernel
theorem dL_orders_120 : decode cL_orders 120 = .ok (.iconst 0, 1) := by decide +kernel
theorem dL_orders_121 : decode cL_orders 121 = .ok (.goto 26, 3) := by decide +kernel
theorem dL_orders_124 : decode cL_orders 124 = .ok (.iload 6, 2) := by decide +kernel
theorem dL_orders_126 : decode cL_orders 126 = .ok (.iconst 1, 1) := by decide +kernel
theorem dL_orders_127 : decode cL_orders 127 = .ok (.if_icmp .ne 19, 3) := by decide +kernel
theorem dL_orders_130 : decode cL_orders 130 = .ok (.iload 7, 2) := by decide +kernel
theorem dL_orders_132 : decode cL_orders 132 = .ok (.aload_n 0, 1) := by decide +kernel
theorem dL_orders_133 : decode cL_orders 133 = .ok (.iload 5, 2) := by decide +kernel
theorem dL_orders_135 : decode cL_orders 135 = .ok (.iconst 3, 1) := by decide +kernel
theorem dL_orders_136 : decode cL_orders 136 = .ok (.invokevirtual 34, 3) := by decide +kernel
theorem dL_orders_139 : decode cL_orders 139 = .ok (.if_icmp .le 7, 3) := by decide +kernel
theorem dL_orders_142 : decode cL_orders 142 = .ok (.iconst 1, 1) := by decide +kernel
theorem dL_orders_143 : decode cL_orders 143 = .ok (.goto 4, 3) := by decide +kernel
theorem dL_orders_146 : decode cL_orders 146 = .ok (.iconst 0, 1) := by decide +kernel
theorem dL_orders_147 : decode cL_orders 147 = .ok (.istore 8, 2) := by decide +kernel
theorem dL_orders_149 : decode cL_orders 149 = .ok (.iload 8, 2) := by decide +kernel
theorem dL_orders_151 : decode cL_orders 151 = .ok (.aload_n 0, 1) := by decide +kernel
theorem dL_orders_152 : decode cL_orders 152 = .ok (.iload 5, 2) := by decide +kernel
theorem dL_orders_154 : decode cL_orders 154 = .ok (.bipush 7, 2) := by decide +kernel
theorem dL_orders_156 : decode cL_orders 156 = .ok (.invokevirtual 34, 3) := by decide +kernel
theorem dL_orders_159 : decode cL_orders 159 = .ok (.iconst 1, 1) := by decide +kernel
theorem dL_orders_160 : decode cL_orders 160 = .ok (.if_icmp .ne 7, 3) := by decide +kernel
theorem dL_orders_163 : decode cL_orders 163 = .ok (.iconst 1, 1) := by decide +kernel
theorem dL_orders_164 : decode cL_orders 164 = .ok (.goto 4, 3) := by decide +kernel
theorem dL_orders_167 : decode cL_orders 167 = .ok (.iconst 0, 1) := by decide +kernel
theorem dL_orders_168 : decode cL_orders 168 = .ok (.if_icmp .ne 56, 3) := by decide +kernel
theorem dL_orders_171 : decode cL_orders 171 = .ok (.iload 6, 2) := by decide +kernel
theorem dL_orders_173 : decode cL_orders 173 = .ok (.iconst 1, 1) := by decide +kernel
theorem dL_orders_174 : decode cL_orders 174 = .ok (.if_icmp .ne 7, 3) := by decide +kernel
theorem dL_orders_177 : decode cL_orders 177 = .ok (.iconst 1, 1) := by decide +kernel
theorem dL_orders_178 : decode cL_orders 178 = .ok (.goto 4, 3) := by decide +kernel
theorem dL_orders_181 : decode cL_orders 181 = .ok (.iconst 0, 1) := by decide +kernel
theorem dL_orders_182 : decode cL_orders 182 = .ok (.iload 7, 2) := by decide +kernel
theorem dL_orders_184 : decode cL_orders 184 = .ok (.ifCond .lt 7, 3) := by decide +kernel
theorem dL_orders_187 : decode cL_orders 187 = .ok (.iconst 1, 1) := by decide +kernel
theorem dL_orders_188 : decode cL_orders 188 = .ok (.goto 4, 3) := by decide +kernel
theorem dL_orders_191 : decode cL_orders 191 = .ok (.iconst 0, 1) := by decide +kernel
theorem dL_orders_192 : decode cL_orders 192 = .ok (.if_icmp .ne 32, 3) := by decide +kernel
theorem dL_orders_195 : decode cL_orders 195 = .ok (.iload 6, 2) := by decide +kernel
theorem dL_orders_197 : decode cL_orders 197 = .ok (.iconst 1, 1) := by decide +kernel
theorem dL_orders_198 : decode cL_orders 198 = .ok (.if_icmp .ne 7, 3) := by decide +kernel
theorem dL_orders_201 : decode cL_orders 201 = .ok (.iconst 1, 1) := by decide +kernel
theorem dL_orders_202 : decode cL_orders 202 = .ok (.goto 4, 3) := by decide +kernel
theorem dL_orders_205 : decode cL_orders 205 = .ok (.iconst 0, 1) := by decide +kernel
theorem dL_orders_206 : decode cL_orders 206 = .ok (.aload_n 0, 1) := by decide +kernel
theorem dL_orders_207 : decode cL_orders 207 = .ok (.iload 5, 2) := by decide +kernel
theorem dL_orders_209 : decode cL_orders 209 = .ok (.iconst 5, 1) := by decide +kernel
theorem dL_orders_210 : decode cL_orders 210 = .ok (.invokevirtual 34, 3) := by decide +kernel
theorem dL_orders_213 : decode cL_orders 213 = .ok (.ifCond .lt 7, 3) := by decide +kernel
theorem dL_orders_216 : decode cL_orders 216 = .ok (.iconst 1, 1) := by decide +kernel
theorem dL_orders_217 : decode cL_orders 217 = .ok (.goto 4, 3) := by decide +kernel
theorem dL_orders_220 : decode cL_orders 220 = .ok (.iconst 0, 1) := by decide +kernel
theorem dL_orders_221 : decode cL_orders 221 = .ok (.if_icmp .eq 5, 3) := by decide +kernel
theorem dL_orders_224 : decode cL_orders 224 = .ok (.iconst 0, 1) := by decide +kernel
theorem dL_orders_225 : decode cL_orders 225 = .ok (.ireturn, 1) := by decide +kernel
theorem dL_orders_226 : decode cL_orders 226 = .ok (.iinc 5 1, 3) := by decide +kernel
theorem dL_orders_229 : decode cL_orders 229 = .ok (.goto (-212), 3) := by decide +kernel
theorem dL_orders_232 : decode cL_orders 232 = .ok (.iconst 0, 1) := by decide +kernel
theorem dL_orders_233 : decode cL_orders 233 = .ok (.istore 5, 2) := by decide +kernel
theorem dL_orders_235 : decode cL_orders 235 = .ok (.iconst (-1), 1) := by decide +kernel
theorem dL_orders_236 : decode cL_orders 236 = .ok (.istore 6, 2) := by decide +kernel
theorem dL_orders_238 : decode cL_orders 238 = .ok (.iconst 0, 1) := by decide +kernel
theorem dL_orders_239 : decode cL_orders 239 = .ok (.istore 7, 2) := by decide +kernel
theorem dL_orders_241 : decode cL_orders 241 = .ok (.iconst 0, 1) := by decide +kernel
theorem dL_orders_242 : decode cL_orders 242 = .ok (.istore 8, 2) := by decide +kernel
theorem dL_orders_244 : decode cL_orders 244 = .ok (.iconst 0, 1) := by decide +kernel
theorem dL_orders_245 : decode cL_orders 245 = .ok (.istore 9, 2) := by decide +kernel
theorem dL_orders_247 : decode cL_orders 247 = .ok (.iload 9, 2) := by decide +kernel
theorem dL_orders_249 : decode cL_orders 249 = .ok (.iload_n 2, 1) := by decide +kernel
theorem dL_orders_250 : decode cL_orders 250 = .ok (.if_icmp .ge 129, 3) := by decide +kernel
theorem dL_orders_253 : decode cL_orders 253 = .ok (.aload_n 0, 1) := by decide +kernel
theorem dL_orders_254 : decode cL_orders 254 = .ok (.iload 9, 2) := by decide +kernel
theorem dL_orders_256 : decode cL_orders 256 = .ok (.invokevirtual 37, 3) := by decide +kernel
theorem dL_orders_259 : decode cL_orders 259 = .ok (.istore 10, 2) := by decide +kernel
theorem dL_orders_261 : decode cL_orders 261 = .ok (.iload 10, 2) := by decide +kernel
theorem dL_orders_263 : decode cL_orders 263 = .ok (.ifCond .lt 24, 3) := by decide +kernel
theorem dL_orders_266 : decode cL_orders 266 = .ok (.iload 5, 2) := by decide +kernel
theorem dL_orders_268 : decode cL_orders 268 = .ok (.iload 10, 2) := by decide +kernel
theorem dL_orders_270 : decode cL_orders 270 = .ok (.ishr, 1) := by decide +kernel
theorem dL_orders_271 : decode cL_orders 271 = .ok (.iconst 1, 1) := by decide +kernel
theorem dL_orders_272 : decode cL_orders 272 = .ok (.iand, 1) := by decide +kernel
theorem dL_orders_273 : decode cL_orders 273 = .ok (.iconst 1, 1) := by decide +kernel
theorem dL_orders_274 : decode cL_orders 274 = .ok (.if_icmp .eq 13, 3) := by decide +kernel
theorem dL_orders_277 : decode cL_orders 277 = .ok (.aload_n 0, 1) := by decide +kernel
theorem dL_orders_278 : decode cL_orders 278 = .ok (.iload 10, 2) := by decide +kernel
theorem dL_orders_280 : decode cL_orders 280 = .ok (.iconst 4, 1) := by decide +kernel
theorem dL_orders_281 : decode cL_orders 281 = .ok (.invokevirtual 34, 3) := by decide +kernel
theorem dL_orders_284 : decode cL_orders 284 = .ok (.ifCond .eq 5, 3) := by decide +kernel
theorem dL_orders_287 : decode cL_orders 287 = .ok (.iconst 0, 1) := by decide +kernel
theorem dL_orders_288 : decode cL_orders 288 = .ok (.ireturn, 1) := by decide +kernel
theorem dL_orders_289 : decode cL_orders 289 = .ok (.aload_n 0, 1) := by decide +kernel
theorem dL_orders_290 : decode cL_orders 290 = .ok (.iload 10, 2) := by decide +kernel
theorem dL_orders_292 : decode cL_orders 292 = .ok (.iconst 3, 1) := by decide +kernel
theorem dL_orders_293 : decode cL_orders 293 = .ok (.invokevirtual 34, 3) := by decide +kernel
theorem dL_orders_296 : decode cL_orders 296 = .ok (.istore 11, 2) := by decide +kernel
theorem dL_orders_298 : decode cL_orders 298 = .ok (.aload_n 0, 1) := by decide +kernel
theorem dL_orders_299 : decode cL_orders 299 = .ok (.iload 10, 2) := by decide +kernel
theorem dL_orders_301 : decode cL_orders 301 = .ok (.iconst 1, 1) := by decide +kernel
theorem dL_orders_302 : decode cL_orders 302 = .ok (.invokevirtual 34, 3) := by decide +kernel
theorem dL_orders_305 : decode cL_orders 305 = .ok (.aload_n 0, 1) := by decide +kernel
theorem dL_orders_306 : decode cL_orders 306 = .ok (.iload 10, 2) := by decide +kernel
theorem dL_orders_308 : decode cL_orders 308 = .ok (.iconst 2, 1) := by decide +kernel
theorem dL_orders_309 : decode cL_orders 309 = .ok (.invokevirtual 34, 3) := by decide +kernel
theorem dL_orders_312 : decode cL_orders 312 = .ok (.imul, 1) := by decide +kernel
theorem dL_orders_313 : decode cL_orders 313 = .ok (.istore 12, 2) := by decide +kernel
theorem dL_orders_315 : decode cL_orders 315 = .ok (.iload 11, 2) := by decide +kernel
theorem dL_orders_317 : decode cL_orders 317 = .ok (.iload 6, 2) := by decide +kernel
theorem dL_orders_319 : decode cL_orders 319 = .ok (.if_icmp .lt 31, 3) := by decide +kernel
theorem dL_orders_322 : decode cL_orders 322 = .ok (.iload 11, 2) := by decide +kernel
theorem dL_orders_324 : decode cL_orders 324 = .ok (.iload 6, 2) := by decide +kernel
theorem dL_orders_326 : decode cL_orders 326 = .ok (.if_icmp .ne 26, 3) := by decide +kernel
theorem dL_orders_329 : decode cL_orders 329 = .ok (.iload 12, 2) := by decide +kernel
theorem dL_orders_331 : decode cL_orders 331 = .ok (.iload 7, 2) := by decide +kernel
theorem dL_orders_333 : decode cL_orders 333 = .ok (.if_icmp .gt 17, 3) := by decide +kernel
theorem dL_orders_336 : decode cL_orders 336 = .ok (.iload 12, 2) := by decide +kernel
theorem dL_orders_338 : decode cL_orders 338 = .ok (.iload 7, 2) := by decide +kernel
theorem dL_orders_340 : decode cL_orders 340 = .ok (.if_icmp .ne 12, 3) := by decide +kernel
theorem dL_orders_343 : decode cL_orders 343 = .ok (.iload 10, 2) := by decide +kernel
theorem dL_orders_345 : decode cL_orders 345 = .ok (.iload 8, 2) := by decide +kernel
theorem dL_orders_347 : decode cL_orders 347 = .ok (.if_icmp .ge 5, 3) := by decide +kernel
theorem dL_orders_350 : decode cL_orders 350 = .ok (.iconst 0, 1) := by decide +kernel
theorem dL_orders_351 : decode cL_orders 351 = .ok (.ireturn, 1) := by decide +kernel
theorem dL_orders_352 : decode cL_orders 352 = .ok (.iload 5, 2) := by decide +kernel
theorem dL_orders_354 : decode cL_orders 354 = .ok (.iconst 1, 1) := by decide +kernel
theorem dL_orders_355 : decode cL_orders 355 = .ok (.iload 10, 2) := by decide +kernel
theorem dL_orders_357 : decode cL_orders 357 = .ok (.ishl, 1) := by decide +kernel
theorem dL_orders_358 : decode cL_orders 358 = .ok (.ior, 1) := by decide +kernel
theorem dL_orders_359 : decode cL_orders 359 = .ok (.istore 5, 2) := by decide +kernel
theorem dL_orders_361 : decode cL_orders 361 = .ok (.iload 11, 2) := by decide +kernel
theorem dL_orders_363 : decode cL_orders 363 = .ok (.istore 6, 2) := by decide +kernel
theorem dL_orders_365 : decode cL_orders 365 = .ok (.iload 12, 2) := by decide +kernel
theorem dL_orders_367 : decode cL_orders 367 = .ok (.istore 7, 2) := by decide +kernel
theorem dL_orders_369 : decode cL_orders 369 = .ok (.iload 10, 2) := by decide +kernel
theorem dL_orders_371 : decode cL_orders 371 = .ok (.istore 8, 2) := by decide +kernel
theorem dL_orders_373 : decode cL_orders 373 = .ok (.iinc 9 1, 3) := by decide +kernel
theorem dL_orders_376 : decode cL_orders 376 = .ok (.goto (-129), 3) := by decide +kernel
theorem dL_orders_379 : decode cL_orders 379 = .ok (.aload_n 0, 1) := by decide +kernel
theorem dL_orders_380 : decode cL_orders 380 = .ok (.iload_n 2, 1) := by decide +kernel
theorem dL_orders_381 : decode cL_orders 381 = .ok (.invokevirtual 37, 3) := by decide +kernel
theorem dL_orders_384 : decode cL_orders 384 = .ok (.bipush (-5), 2) := by decide +kernel
theorem dL_orders_386 : decode cL_orders 386 = .ok (.if_icmp .ne 47, 3) := by decide +kernel
theorem dL_orders_389 : decode cL_orders 389 = .ok (.iload_n 2, 1) := by decide +kernel
theorem dL_orders_390 : decode cL_orders 390 = .ok (.aload_n 0, 1) := by decide +kernel
theorem dL_orders_391 : decode cL_orders 391 = .ok (.bipush 10, 2) := by decide +kernel
theorem dL_orders_393 : decode cL_orders 393 = .ok (.invokevirtual 13, 3) := by decide +kernel
theorem dL_orders_396 : decode cL_orders 396 = .ok (.if_icmp .ne 37, 3) := by decide +kernel
theorem dL_orders_399 : decode cL_orders 399 = .ok (.iload_n 3, 1) := by decide +kernel
theorem dL_orders_400 : decode cL_orders 400 = .ok (.aload_n 0, 1) := by decide +kernel
theorem dL_orders_401 : decode cL_orders 401 = .ok (.bipush 11, 2) := by decide +kernel
theorem dL_orders_403 : decode cL_orders 403 = .ok (.invokevirtual 13, 3) := by decide +kernel
theorem dL_orders_406 : decode cL_orders 406 = .ok (.if_icmp .ne 27, 3) := by decide +kernel
theorem dL_orders_409 : decode cL_orders 409 = .ok (.iload 4, 2) := by decide +kernel
theorem dL_orders_411 : decode cL_orders 411 = .ok (.aload_n 0, 1) := by decide +kernel
theorem dL_orders_412 : decode cL_orders 412 = .ok (.iconst 4, 1) := by decide +kernel
theorem dL_orders_413 : decode cL_orders 413 = .ok (.invokevirtual 13, 3) := by decide +kernel
theorem dL_orders_416 : decode cL_orders 416 = .ok (.if_icmp .ne 17, 3) := by decide +kernel
theorem dL_orders_419 : decode cL_orders 419 = .ok (.aload_n 0, 1) := by decide +kernel
theorem dL_orders_420 : decode cL_orders 420 = .ok (.iload_n 1, 1) := by decide +kernel
theorem dL_orders_421 : decode cL_orders 421 = .ok (.iconst 0, 1) := by decide +kernel
theorem dL_orders_422 : decode cL_orders 422 = .ok (.invokevirtual 34, 3) := by decide +kernel
theorem dL_orders_425 : decode cL_orders 425 = .ok (.iconst (-1), 1) := by decide +kernel
theorem dL_orders_426 : decode cL_orders 426 = .ok (.if_icmp .ne 7, 3) := by decide +kernel
theorem dL_orders_429 : decode cL_orders 429 = .ok (.iconst 1, 1) := by decide +kernel
theorem dL_orders_430 : decode cL_orders 430 = .ok (.goto 4, 3) := by decide +kernel
theorem dL_orders_433 : decode cL_orders 433 = .ok (.iconst 0, 1) := by decide +kernel
theorem dL_orders_434 : decode cL_orders 434 = .ok (.ireturn, 1) := by decide +kernel
theorem dL_choices_0 : decode cL_choices 0 = .ok (.iload_n 1, 1) := by decide +kernel
theorem dL_choices_1 : decode cL_choices 1 = .ok (.aload_n 0, 1) := by decide +kernel
theorem dL_choices_2 : decode cL_choices 2 = .ok (.bipush 9, 2) := by decide +kernel
theorem dL_choices_4 : decode cL_choices 4 = .ok (.invokevirtual 13, 3) := by decide +kernel
theorem dL_choices_7 : decode cL_choices 7 = .ok (.invokestatic 40, 3) := by decide +kernel
theorem dL_choices_10 : decode cL_choices 10 = .ok (.istore_n 2, 1) := by decide +kernel
theorem dL_choices_11 : decode cL_choices 11 = .ok (.iload_n 1, 1) := by decide +kernel
theorem dL_choices_12 : decode cL_choices 12 = .ok (.iconst 4, 1) := by decide +kernel
theorem dL_choices_13 : decode cL_choices 13 = .ok (.ishr, 1) := by decide +kernel
theorem dL_choices_14 : decode cL_choices 14 = .ok (.iconst 3, 1) := by decide +kernel
theorem dL_choices_15 : decode cL_choices 15 = .ok (.invokestatic 40, 3) := by decide +kernel
theorem dL_choices_18 : decode cL_choices 18 = .ok (.istore_n 3, 1) := by decide +kernel
theorem dL_choices_19 : decode cL_choices 19 = .ok (.aload_n 0, 1) := by decide +kernel
theorem dL_choices_20 : decode cL_choices 20 = .ok (.iload_n 2, 1) := by decide +kernel
theorem dL_choices_21 : decode cL_choices 21 = .ok (.iload_n 3, 1) := by decide +kernel
theorem dL_choices_22 : decode cL_choices 22 = .ok (.invokevirtual 45, 3) := by decide +kernel
theorem dL_choices_25 : decode cL_choices 25 = .ok (.istore 4, 2) := by decide +kernel
theorem dL_choices_27 : decode cL_choices 27 = .ok (.aload_n 0, 1) := by decide +kernel
theorem dL_choices_28 : decode cL_choices 28 = .ok (.iload_n 2, 1) := by decide +kernel
theorem dL_choices_29 : decode cL_choices 29 = .ok (.iconst 4, 1) := by decide +kernel
theorem dL_choices_30 : decode cL_choices 30 = .ok (.invokevirtual 34, 3) := by decide +kernel
theorem dL_choices_33 : decode cL_choices 33 = .ok (.ifCond .eq 16, 3) := by decide +kernel
theorem dL_choices_36 : decode cL_choices 36 = .ok (.iload 4, 2) := by decide +kernel
theorem dL_choices_38 : decode cL_choices 38 = .ok (.bipush (-4), 2) := by decide +kernel
theorem dL_choices_40 : decode cL_choices 40 = .ok (.if_icmp .ne 7, 3) := by decide +kernel
theorem dL_choices_43 : decode cL_choices 43 = .ok (.iconst 1, 1) := by decide +kernel
theorem dL_choices_44 : decode cL_choices 44 = .ok (.goto 4, 3) := by decide +kernel
theorem dL_choices_47 : decode cL_choices 47 = .ok (.iconst 0, 1) := by decide +kernel
theorem dL_choices_48 : decode cL_choices 48 = .ok (.ireturn, 1) := by decide +kernel
theorem dL_choices_49 : decode cL_choices 49 = .ok (.bipush (-5), 2) := by decide +kernel
theorem dL_choices_51 : decode cL_choices 51 = .ok (.istore 5, 2) := by decide +kernel
theorem dL_choices_53 : decode cL_choices 53 = .ok (.iconst 0, 1) := by decide +kernel
theorem dL_choices_54 : decode cL_choices 54 = .ok (.istore 6, 2) := by decide +kernel
theorem dL_choices_56 : decode cL_choices 56 = .ok (.iconst 0, 1) := by decide +kernel
theorem dL_choices_57 : decode cL_choices 57 = .ok (.istore 7, 2) := by decide +kernel
theorem dL_choices_59 : decode cL_choices 59 = .ok (.iload 7, 2) := by decide +kernel
theorem dL_choices_61 : decode cL_choices 61 = .ok (.aload_n 0, 1) := by decide +kernel
theorem dL_choices_62 : decode cL_choices 62 = .ok (.bipush 12, 2) := by decide +kernel
theorem dL_choices_64 : decode cL_choices 64 = .ok (.invokevirtual 13, 3) := by decide +kernel
theorem dL_choices_67 : decode cL_choices 67 = .ok (.if_icmp .ge 207, 3) := by decide +kernel
theorem dL_choices_70 : decode cL_choices 70 = .ok (.aload_n 0, 1) := by decide +kernel
theorem dL_choices_71 : decode cL_choices 71 = .ok (.iload_n 2, 1) := by decide +kernel
theorem dL_choices_72 : decode cL_choices 72 = .ok (.iload 7, 2) := by decide +kernel
theorem dL_choices_74 : decode cL_choices 74 = .ok (.iconst 0, 1) := by decide +kernel
theorem dL_choices_75 : decode cL_choices 75 = .ok (.invokevirtual 48, 3) := by decide +kernel
theorem dL_choices_78 : decode cL_choices 78 = .ok (.istore 8, 2) := by decide +kernel
theorem dL_choices_80 : decode cL_choices 80 = .ok (.iload 8, 2) := by decide +kernel
theorem dL_choices_82 : decode cL_choices 82 = .ok (.ifCond .ge 6, 3) := by decide +kernel
theorem dL_choices_85 : decode cL_choices 85 = .ok (.goto 183, 3) := by decide +kernel
theorem dL_choices_88 : decode cL_choices 88 = .ok (.aload_n 0, 1) := by decide +kernel
theorem dL_choices_89 : decode cL_choices 89 = .ok (.iload 7, 2) := by decide +kernel
theorem dL_choices_91 : decode cL_choices 91 = .ok (.iconst 1, 1) := by decide +kernel
theorem dL_choices_92 : decode cL_choices 92 = .ok (.invokevirtual 25, 3) := by decide +kernel
theorem dL_choices_95 : decode cL_choices 95 = .ok (.aload_n 0, 1) := by decide +kernel
theorem dL_choices_96 : decode cL_choices 96 = .ok (.iload 7, 2) := by decide +kernel
theorem dL_choices_98 : decode cL_choices 98 = .ok (.iconst 2, 1) := by decide +kernel
theorem dL_choices_99 : decode cL_choices 99 = .ok (.invokevirtual 25, 3) := by decide +kernel
theorem dL_choices_102 : decode cL_choices 102 = .ok (.imul, 1) := by decide +kernel
theorem dL_choices_103 : decode cL_choices 103 = .ok (.istore 9, 2) := by decide +kernel
theorem dL_choices_105 : decode cL_choices 105 = .ok (.aload_n 0, 1) := by decide +kernel
theorem dL_choices_106 : decode cL_choices 106 = .ok (.iload_n 2, 1) := by decide +kernel
theorem dL_choices_107 : decode cL_choices 107 = .ok (.iconst 1, 1) := by decide +kernel
theorem dL_choices_108 : decode cL_choices 108 = .ok (.invokevirtual 34, 3) := by decide +kernel
theorem dL_choices_111 : decode cL_choices 111 = .ok (.aload_n 0, 1) := by decide +kernel
theorem dL_choices_112 : decode cL_choices 112 = .ok (.iload_n 2, 1) := by decide +kernel
theorem dL_choices_113 : decode cL_choices 113 = .ok (.iconst 2, 1) := by decide +kernel
theorem dL_choices_114 : decode cL_choices 114 = .ok (.invokevirtual 34, 3) := by decide +kernel
theorem dL_choices_117 : decode cL_choices 117 = .ok (.imul, 1) := by decide +kernel
theorem dL_choices_118 : decode cL_choices 118 = .ok (.istore 10, 2) := by decide +kernel
theorem dL_choices_120 : decode cL_choices 120 = .ok (.aload_n 0, 1) := by decide +kernel
theorem dL_choices_121 : decode cL_choices 121 = .ok (.iload_n 2, 1) := by decide +kernel
theorem dL_choices_122 : decode cL_choices 122 = .ok (.iload 7, 2) := by decide +kernel
theorem dL_choices_124 : decode cL_choices 124 = .ok (.iconst 5, 1) := by decide +kernel
theorem dL_choices_125 : decode cL_choices 125 = .ok (.invokevirtual 48, 3) := by decide +kernel
theorem dL_choices_128 : decode cL_choices 128 = .ok (.istore 11, 2) := by decide +kernel
theorem dL_choices_130 : decode cL_choices 130 = .ok (.iload 10, 2) := by decide +kernel
theorem dL_choices_132 : decode cL_choices 132 = .ok (.aload_n 0, 1) := by decide +kernel
theorem dL_choices_133 : decode cL_choices 133 = .ok (.iload_n 2, 1) := by decide +kernel
theorem dL_choices_134 : decode cL_choices 134 = .ok (.iload 7, 2) := by decide +kernel
theorem dL_choices_136 : decode cL_choices 136 = .ok (.iconst 1, 1) := by decide +kernel
theorem dL_choices_137 : decode cL_choices 137 = .ok (.invokevirtual 48, 3) := by decide +kernel
theorem dL_choices_140 : decode cL_choices 140 = .ok (.iadd, 1) := by decide +kernel
theorem dL_choices_141 : decode cL_choices 141 = .ok (.aload_n 0, 1) := by decide +kernel
theorem dL_choices_142 : decode cL_choices 142 = .ok (.iload_n 2, 1) := by decide +kernel
theorem dL_choices_143 : decode cL_choices 143 = .ok (.iload 7, 2) := by decide +kernel
theorem dL_choices_145 : decode cL_choices 145 = .ok (.iconst 2, 1) := by decide +kernel
theorem dL_choices_146 : decode cL_choices 146 = .ok (.invokevirtual 48, 3) := by decide +kernel
theorem dL_choices_149 : decode cL_choices 149 = .ok (.iadd, 1) := by decide +kernel
theorem dL_choices_150 : decode cL_choices 150 = .ok (.iload 11, 2) := by decide +kernel
theorem dL_choices_152 : decode cL_choices 152 = .ok (.iadd, 1) := by decide +kernel
theorem dL_choices_153 : decode cL_choices 153 = .ok (.iload 9, 2) := by decide +kernel
theorem dL_choices_155 : decode cL_choices 155 = .ok (.if_icmp .ne 57, 3) := by decide +kernel
theorem dL_choices_158 : decode cL_choices 158 = .ok (.aload_n 0, 1) := by decide +kernel
theorem dL_choices_159 : decode cL_choices 159 = .ok (.iload_n 2, 1) := by decide +kernel
theorem dL_choices_160 : decode cL_choices 160 = .ok (.iload 7, 2) := by decide +kernel
theorem dL_choices_162 : decode cL_choices 162 = .ok (.iconst 3, 1) := by decide +kernel
theorem dL_choices_163 : decode cL_choices 163 = .ok (.invokevirtual 48, 3) := by decide +kernel
theorem dL_choices_166 : decode cL_choices 166 = .ok (.aload_n 0, 1) := by decide +kernel
theorem dL_choices_167 : decode cL_choices 167 = .ok (.iload_n 2, 1) := by decide +kernel
theorem dL_choices_168 : decode cL_choices 168 = .ok (.iload 7, 2) := by decide +kernel
theorem dL_choices_170 : decode cL_choices 170 = .ok (.iconst 4, 1) := by decide +kernel
theorem dL_choices_171 : decode cL_choices 171 = .ok (.invokevirtual 48, 3) := by decide +kernel
theorem dL_choices_174 : decode cL_choices 174 = .ok (.iadd, 1) := by decide +kernel
theorem dL_choices_175 : decode cL_choices 175 = .ok (.iload 10, 2) := by decide +kernel
theorem dL_choices_177 : decode cL_choices 177 = .ok (.iadd, 1) := by decide +kernel
theorem dL_choices_178 : decode cL_choices 178 = .ok (.iload 11, 2) := by decide +kernel
theorem dL_choices_180 : decode cL_choices 180 = .ok (.iadd, 1) := by decide +kernel
theorem dL_choices_181 : decode cL_choices 181 = .ok (.iload 9, 2) := by decide +kernel
theorem dL_choices_183 : decode cL_choices 183 = .ok (.if_icmp .ne 29, 3) := by decide +kernel
theorem dL_choices_186 : decode cL_choices 186 = .ok (.iload 11, 2) := by decide +kernel
theorem dL_choices_188 : decode cL_choices 188 = .ok (.ifCond .lt 24, 3) := by decide +kernel
theorem dL_choices_191 : decode cL_choices 191 = .ok (.aload_n 0, 1) := by decide +kernel
theorem dL_choices_192 : decode cL_choices 192 = .ok (.iload_n 2, 1) := by decide +kernel
theorem dL_choices_193 : decode cL_choices 193 = .ok (.iload 7, 2) := by decide +kernel
theorem dL_choices_195 : decode cL_choices 195 = .ok (.bipush 6, 2) := by decide +kernel
theorem dL_choices_197 : decode cL_choices 197 = .ok (.invokevirtual 48, 3) := by decide +kernel
theorem dL_choices_200 : decode cL_choices 200 = .ok (.iconst 1, 1) := by decide +kernel
theorem dL_choices_201 : decode cL_choices 201 = .ok (.aload_n 0, 1) := by decide +kernel
theorem dL_choices_202 : decode cL_choices 202 = .ok (.iload 7, 2) := by decide +kernel
theorem dL_choices_204 : decode cL_choices 204 = .ok (.iconst 4, 1) := by decide +kernel
theorem dL_choices_205 : decode cL_choices 205 = .ok (.invokevirtual 25, 3) := by decide +kernel
theorem dL_choices_208 : decode cL_choices 208 = .ok (.iadd, 1) := by decide +kernel
theorem dL_choices_209 : decode cL_choices 209 = .ok (.if_icmp .eq 5, 3) := by decide +kernel
theorem dL_choices_212 : decode cL_choices 212 = .ok (.iconst 0, 1) := by decide +kernel
theorem dL_choices_213 : decode cL_choices 213 = .ok (.ireturn, 1) := by decide +kernel
theorem dL_choices_214 : decode cL_choices 214 = .ok (.iload_n 3, 1) := by decide +kernel
theorem dL_choices_215 : decode cL_choices 215 = .ok (.ifCond .ne 8, 3) := by decide +kernel
theorem dL_choices_218 : decode cL_choices 218 = .ok (.iload 9, 2) := by decide +kernel
theorem dL_choices_220 : decode cL_choices 220 = .ok (.goto 26, 3) := by decide +kernel
theorem dL_choices_223 : decode cL_choices 223 = .ok (.iload_n 3, 1) := by decide +kernel
theorem dL_choices_224 : decode cL_choices 224 = .ok (.iconst 1, 1) := by decide +kernel
theorem dL_choices_225 : decode cL_choices 225 = .ok (.if_icmp .ne 13, 3) := by decide +kernel
theorem dL_choices_228 : decode cL_choices 228 = .ok (.aload_n 0, 1) := by decide +kernel
theorem dL_choices_229 : decode cL_choices 229 = .ok (.iload 7, 2) := by decide +kernel
theorem dL_choices_231 : decode cL_choices 231 = .ok (.iconst 4, 1) := by decide +kernel
theorem dL_choices_232 : decode cL_choices 232 = .ok (.invokevirtual 25, 3) := by decide +kernel
theorem dL_choices_235 : decode cL_choices 235 = .ok (.goto 11, 3) := by decide +kernel
theorem dL_choices_238 : decode cL_choices 238 = .ok (.aload_n 0, 1) := by decide +kernel
theorem dL_choices_239 : decode cL_choices 239 = .ok (.iload_n 2, 1) := by decide +kernel
theorem dL_choices_240 : decode cL_choices 240 = .ok (.iload 7, 2) := by decide +kernel
theorem dL_choices_242 : decode cL_choices 242 = .ok (.iconst 4, 1) := by decide +kernel
theorem dL_choices_243 : decode cL_choices 243 = .ok (.invokevirtual 48, 3) := by decide +kernel
theorem dL_choices_246 : decode cL_choices 246 = .ok (.istore 12, 2) := by decide +kernel
theorem dL_choices_248 : decode cL_choices 248 = .ok (.iload 5, 2) := by decide +kernel
theorem dL_choices_250 : decode cL_choices 250 = .ok (.ifCond .lt 10, 3) := by decide +kernel
theorem dL_choices_253 : decode cL_choices 253 = .ok (.iload 12, 2) := by decide +kernel
theorem dL_choices_255 : decode cL_choices 255 = .ok (.iload 6, 2) := by decide +kernel
theorem dL_choices_257 : decode cL_choices 257 = .ok (.if_icmp .ge 11, 3) := by decide +kernel
theorem dL_choices_260 : decode cL_choices 260 = .ok (.iload 7, 2) := by decide +kernel
theorem dL_choices_262 : decode cL_choices 262 = .ok (.istore 5, 2) := by decide +kernel
theorem dL_choices_264 : decode cL_choices 264 = .ok (.iload 12, 2) := by decide +kernel
theorem dL_choices_266 : decode cL_choices 266 = .ok (.istore 6, 2) := by decide +kernel
theorem dL_choices_268 : decode cL_choices 268 = .ok (.iinc 7 1, 3) := by decide +kernel
theorem dL_choices_271 : decode cL_choices 271 = .ok (.goto (-212), 3) := by decide +kernel
theorem dL_choices_274 : decode cL_choices 274 = .ok (.iload 4, 2) := by decide +kernel
theorem dL_choices_276 : decode cL_choices 276 = .ok (.iload 5, 2) := by decide +kernel
theorem dL_choices_278 : decode cL_choices 278 = .ok (.if_icmp .ne 7, 3) := by decide +kernel
theorem dL_choices_281 : decode cL_choices 281 = .ok (.iconst 1, 1) := by decide +kernel
theorem dL_choices_282 : decode cL_choices 282 = .ok (.goto 4, 3) := by decide +kernel
theorem dL_choices_285 : decode cL_choices 285 = .ok (.iconst 0, 1) := by decide +kernel
theorem dL_choices_286 : decode cL_choices 286 = .ok (.ireturn, 1) := by decide +kernel
theorem dL_plans_0 : decode cL_plans 0 = .ok (.iload_n 1, 1) := by decide +kernel
theorem dL_plans_1 : decode cL_plans 1 = .ok (.iconst 3, 1) := by decide +kernel
theorem dL_plans_2 : decode cL_plans 2 = .ok (.invokestatic 40, 3) := by decide +kernel
theorem dL_plans_5 : decode cL_plans 5 = .ok (.istore_n 2, 1) := by decide +kernel
theorem dL_plans_6 : decode cL_plans 6 = .ok (.aload_n 0, 1) := by decide +kernel
theorem dL_plans_7 : decode cL_plans 7 = .ok (.iload_n 2, 1) := by decide +kernel
theorem dL_plans_8 : decode cL_plans 8 = .ok (.iconst 0, 1) := by decide +kernel
theorem dL_plans_9 : decode cL_plans 9 = .ok (.invokevirtual 52, 3) := by decide +kernel
theorem dL_plans_12 : decode cL_plans 12 = .ok (.istore_n 3, 1) := by decide +kernel
theorem dL_plans_13 : decode cL_plans 13 = .ok (.aload_n 0, 1) := by decide +kernel
theorem dL_plans_14 : decode cL_plans 14 = .ok (.iload_n 2, 1) := by decide +kernel
theorem dL_plans_15 : decode cL_plans 15 = .ok (.iconst 1, 1) := by decide +kernel
theorem dL_plans_16 : decode cL_plans 16 = .ok (.invokevirtual 52, 3) := by decide +kernel
theorem dL_plans_19 : decode cL_plans 19 = .ok (.aload_n 0, 1) := by decide +kernel
theorem dL_plans_20 : decode cL_plans 20 = .ok (.iconst 5, 1) := by decide +kernel
theorem dL_plans_21 : decode cL_plans 21 = .ok (.invokevirtual 13, 3) := by decide +kernel
theorem dL_plans_24 : decode cL_plans 24 = .ok (.iadd, 1) := by decide +kernel
theorem dL_plans_25 : decode cL_plans 25 = .ok (.istore 4, 2) := by decide +kernel
theorem dL_plans_27 : decode cL_plans 27 = .ok (.aload_n 0, 1) := by decide +kernel
theorem dL_plans_28 : decode cL_plans 28 = .ok (.iload_n 2, 1) := by decide +kernel
theorem dL_plans_29 : decode cL_plans 29 = .ok (.iconst 2, 1) := by decide +kernel
theorem dL_plans_30 : decode cL_plans 30 = .ok (.invokevirtual 52, 3) := by decide +kernel
theorem dL_plans_33 : decode cL_plans 33 = .ok (.aload_n 0, 1) := by decide +kernel
theorem dL_plans_34 : decode cL_plans 34 = .ok (.bipush 8, 2) := by decide +kernel
theorem dL_plans_36 : decode cL_plans 36 = .ok (.invokevirtual 13, 3) := by decide +kernel
theorem dL_plans_39 : decode cL_plans 39 = .ok (.iadd, 1) := by decide +kernel
theorem dL_plans_40 : decode cL_plans 40 = .ok (.istore 5, 2) := by decide +kernel
theorem dL_plans_42 : decode cL_plans 42 = .ok (.aload_n 0, 1) := by decide +kernel
theorem dL_plans_43 : decode cL_plans 43 = .ok (.iload_n 2, 1) := by decide +kernel
theorem dL_plans_44 : decode cL_plans 44 = .ok (.iconst 3, 1) := by decide +kernel
theorem dL_plans_45 : decode cL_plans 45 = .ok (.invokevirtual 52, 3) := by decide +kernel
theorem dL_plans_48 : decode cL_plans 48 = .ok (.aload_n 0, 1) := by decide +kernel
theorem dL_plans_49 : decode cL_plans 49 = .ok (.bipush 6, 2) := by decide +kernel
theorem dL_plans_51 : decode cL_plans 51 = .ok (.invokevirtual 13, 3) := by decide +kernel
theorem dL_plans_54 : decode cL_plans 54 = .ok (.iadd, 1) := by decide +kernel
theorem dL_plans_55 : decode cL_plans 55 = .ok (.istore 6, 2) := by decide +kernel
theorem dL_plans_57 : decode cL_plans 57 = .ok (.aload_n 0, 1) := by decide +kernel
theorem dL_plans_58 : decode cL_plans 58 = .ok (.bipush 10, 2) := by decide +kernel
theorem dL_plans_60 : decode cL_plans 60 = .ok (.invokevirtual 13, 3) := by decide +kernel
theorem dL_plans_63 : decode cL_plans 63 = .ok (.istore 7, 2) := by decide +kernel
theorem dL_plans_65 : decode cL_plans 65 = .ok (.aload_n 0, 1) := by decide +kernel
theorem dL_plans_66 : decode cL_plans 66 = .ok (.iload_n 2, 1) := by decide +kernel
theorem dL_plans_67 : decode cL_plans 67 = .ok (.invokevirtual 55, 3) := by decide +kernel
theorem dL_plans_70 : decode cL_plans 70 = .ok (.istore 8, 2) := by decide +kernel
theorem dL_plans_72 : decode cL_plans 72 = .ok (.iload 7, 2) := by decide +kernel
theorem dL_plans_74 : decode cL_plans 74 = .ok (.ifCond .ne 20, 3) := by decide +kernel
theorem dL_plans_77 : decode cL_plans 77 = .ok (.iload 8, 2) := by decide +kernel
theorem dL_plans_79 : decode cL_plans 79 = .ok (.bipush (-5), 2) := by decide +kernel
theorem dL_plans_81 : decode cL_plans 81 = .ok (.if_icmp .ne 11, 3) := by decide +kernel
theorem dL_plans_84 : decode cL_plans 84 = .ok (.iload_n 3, 1) := by decide +kernel
theorem dL_plans_85 : decode cL_plans 85 = .ok (.ifCond .ne 7, 3) := by decide +kernel
theorem dL_plans_88 : decode cL_plans 88 = .ok (.iconst 1, 1) := by decide +kernel
theorem dL_plans_89 : decode cL_plans 89 = .ok (.goto 4, 3) := by decide +kernel
theorem dL_plans_92 : decode cL_plans 92 = .ok (.iconst 0, 1) := by decide +kernel
theorem dL_plans_93 : decode cL_plans 93 = .ok (.ireturn, 1) := by decide +kernel
theorem dL_plans_94 : decode cL_plans 94 = .ok (.iload 8, 2) := by decide +kernel
theorem dL_plans_96 : decode cL_plans 96 = .ok (.iload_n 3, 1) := by decide +kernel
theorem dL_plans_97 : decode cL_plans 97 = .ok (.if_icmp .ne 52, 3) := by decide +kernel
theorem dL_plans_100 : decode cL_plans 100 = .ok (.aload_n 0, 1) := by decide +kernel
theorem dL_plans_101 : decode cL_plans 101 = .ok (.bipush 10, 2) := by decide +kernel
theorem dL_plans_103 : decode cL_plans 103 = .ok (.invokevirtual 13, 3) := by decide +kernel
theorem dL_plans_106 : decode cL_plans 106 = .ok (.iload 7, 2) := by decide +kernel
theorem dL_plans_108 : decode cL_plans 108 = .ok (.iload_n 3, 1) := by decide +kernel
theorem dL_plans_109 : decode cL_plans 109 = .ok (.isub, 1) := by decide +kernel
theorem dL_plans_110 : decode cL_plans 110 = .ok (.if_icmp .ne 39, 3) := by decide +kernel
theorem dL_plans_113 : decode cL_plans 113 = .ok (.aload_n 0, 1) := by decide +kernel
theorem dL_plans_114 : decode cL_plans 114 = .ok (.iconst 5, 1) := by decide +kernel
theorem dL_plans_115 : decode cL_plans 115 = .ok (.invokevirtual 13, 3) := by decide +kernel
theorem dL_plans_118 : decode cL_plans 118 = .ok (.iload 4, 2) := by decide +kernel
theorem dL_plans_120 : decode cL_plans 120 = .ok (.if_icmp .ne 29, 3) := by decide +kernel
theorem dL_plans_123 : decode cL_plans 123 = .ok (.aload_n 0, 1) := by decide +kernel
theorem dL_plans_124 : decode cL_plans 124 = .ok (.bipush 8, 2) := by decide +kernel
theorem dL_plans_126 : decode cL_plans 126 = .ok (.invokevirtual 13, 3) := by decide +kernel
theorem dL_plans_129 : decode cL_plans 129 = .ok (.iload 5, 2) := by decide +kernel
theorem dL_plans_131 : decode cL_plans 131 = .ok (.if_icmp .ne 18, 3) := by decide +kernel
