theorem dX10_stands_32 : decode cX10_stands 32 = .ok (.getfield 146, 3) := by decide +kernel
theorem dX10_stands_35 : decode cX10_stands 35 = .ok (.iload_n 2, 1) := by decide +kernel
theorem dX10_stands_36 : decode cX10_stands 36 = .ok (.ifCond .eq 7, 3) := by decide +kernel
theorem dX10_stands_39 : decode cX10_stands 39 = .ok (.iconst 1, 1) := by decide +kernel
theorem dX10_stands_40 : decode cX10_stands 40 = .ok (.goto 4, 3) := by decide +kernel
theorem dX10_stands_43 : decode cX10_stands 43 = .ok (.iconst 0, 1) := by decide +kernel
theorem dX10_stands_44 : decode cX10_stands 44 = .ok (.iadd, 1) := by decide +kernel
theorem dX10_stands_45 : decode cX10_stands 45 = .ok (.putfield 146, 3) := by decide +kernel
theorem dX10_stands_48 : decode cX10_stands 48 = .ok (.iload_n 2, 1) := by decide +kernel
theorem dX10_stands_49 : decode cX10_stands 49 = .ok (.ireturn, 1) := by decide +kernel
theorem dX10_number_0 : decode cX10_number 0 = .ok (.aload_n 0, 1) := by decide +kernel
theorem dX10_number_1 : decode cX10_number 1 = .ok (.getfield 146, 3) := by decide +kernel
theorem dX10_number_4 : decode cX10_number 4 = .ok (.aload_n 0, 1) := by decide +kernel
theorem dX10_number_5 : decode cX10_number 5 = .ok (.getfield 149, 3) := by decide +kernel
theorem dX10_number_8 : decode cX10_number 8 = .ok (.if_icmp .eq 44, 3) := by decide +kernel
theorem dX10_number_11 : decode cX10_number 11 = .ok (.aload_n 0, 1) := by decide +kernel
theorem dX10_number_12 : decode cX10_number 12 = .ok (.getfield 22, 3) := by decide +kernel
theorem dX10_number_15 : decode cX10_number 15 = .ok (.aload_n 0, 1) := by decide +kernel
theorem dX10_number_16 : decode cX10_number 16 = .ok (.getfield 146, 3) := by decide +kernel
theorem dX10_number_19 : decode cX10_number 19 = .ok (.iaload, 1) := by decide +kernel
theorem dX10_number_20 : decode cX10_number 20 = .ok (.iload_n 1, 1) := by decide +kernel
theorem dX10_number_21 : decode cX10_number 21 = .ok (.ifCond .le 8, 3) := by decide +kernel
theorem dX10_number_24 : decode cX10_number 24 = .ok (.bipush 49, 2) := by decide +kernel
theorem dX10_number_26 : decode cX10_number 26 = .ok (.goto 5, 3) := by decide +kernel
theorem dX10_number_29 : decode cX10_number 29 = .ok (.bipush 48, 2) := by decide +kernel
theorem dX10_number_31 : decode cX10_number 31 = .ok (.iload_n 2, 1) := by decide +kernel
theorem dX10_number_32 : decode cX10_number 32 = .ok (.bipush 10, 2) := by decide +kernel
theorem dX10_number_34 : decode cX10_number 34 = .ok (.if_icmp .ge 10, 3) := by decide +kernel
theorem dX10_number_37 : decode cX10_number 37 = .ok (.bipush 48, 2) := by decide +kernel
theorem dX10_number_39 : decode cX10_number 39 = .ok (.iload_n 2, 1) := by decide +kernel
theorem dX10_number_40 : decode cX10_number 40 = .ok (.iadd, 1) := by decide +kernel
theorem dX10_number_41 : decode cX10_number 41 = .ok (.goto 5, 3) := by decide +kernel
theorem dX10_number_44 : decode cX10_number 44 = .ok (.bipush 57, 2) := by decide +kernel
theorem dX10_number_46 : decode cX10_number 46 = .ok (.invokestatic 33, 3) := by decide +kernel
theorem dX10_number_49 : decode cX10_number 49 = .ok (.ifCond .ne 5, 3) := by decide +kernel
theorem dX10_number_52 : decode cX10_number 52 = .ok (.iconst (-1), 1) := by decide +kernel
theorem dX10_number_53 : decode cX10_number 53 = .ok (.ireturn, 1) := by decide +kernel
theorem dX10_number_54 : decode cX10_number 54 = .ok (.aload_n 0, 1) := by decide +kernel
theorem dX10_number_55 : decode cX10_number 55 = .ok (.getfield 22, 3) := by decide +kernel
theorem dX10_number_58 : decode cX10_number 58 = .ok (.aload_n 0, 1) := by decide +kernel
theorem dX10_number_59 : decode cX10_number 59 = .ok (.getfield 146, 3) := by decide +kernel
theorem dX10_number_62 : decode cX10_number 62 = .ok (.iaload, 1) := by decide +kernel
theorem dX10_number_63 : decode cX10_number 63 = .ok (.bipush 48, 2) := by decide +kernel
theorem dX10_number_65 : decode cX10_number 65 = .ok (.isub, 1) := by decide +kernel
theorem dX10_number_66 : decode cX10_number 66 = .ok (.istore_n 3, 1) := by decide +kernel
theorem dX10_number_67 : decode cX10_number 67 = .ok (.aload_n 0, 1) := by decide +kernel
theorem dX10_number_68 : decode cX10_number 68 = .ok (.dup, 1) := by decide +kernel
theorem dX10_number_69 : decode cX10_number 69 = .ok (.getfield 146, 3) := by decide +kernel
theorem dX10_number_72 : decode cX10_number 72 = .ok (.iconst 1, 1) := by decide +kernel
theorem dX10_number_73 : decode cX10_number 73 = .ok (.iadd, 1) := by decide +kernel
theorem dX10_number_74 : decode cX10_number 74 = .ok (.putfield 146, 3) := by decide +kernel
theorem dX10_number_77 : decode cX10_number 77 = .ok (.iload_n 3, 1) := by decide +kernel
theorem dX10_number_78 : decode cX10_number 78 = .ok (.ifCond .le 85, 3) := by decide +kernel
theorem dX10_number_81 : decode cX10_number 81 = .ok (.aload_n 0, 1) := by decide +kernel
theorem dX10_number_82 : decode cX10_number 82 = .ok (.getfield 146, 3) := by decide +kernel
theorem dX10_number_85 : decode cX10_number 85 = .ok (.aload_n 0, 1) := by decide +kernel
theorem dX10_number_86 : decode cX10_number 86 = .ok (.getfield 149, 3) := by decide +kernel
theorem dX10_number_89 : decode cX10_number 89 = .ok (.if_icmp .ge 74, 3) := by decide +kernel
theorem dX10_number_92 : decode cX10_number 92 = .ok (.aload_n 0, 1) := by decide +kernel
theorem dX10_number_93 : decode cX10_number 93 = .ok (.getfield 22, 3) := by decide +kernel
theorem dX10_number_96 : decode cX10_number 96 = .ok (.aload_n 0, 1) := by decide +kernel
theorem dX10_number_97 : decode cX10_number 97 = .ok (.getfield 146, 3) := by decide +kernel
theorem dX10_number_100 : decode cX10_number 100 = .ok (.iaload, 1) := by decide +kernel
theorem dX10_number_101 : decode cX10_number 101 = .ok (.bipush 48, 2) := by decide +kernel
theorem dX10_number_103 : decode cX10_number 103 = .ok (.bipush 57, 2) := by decide +kernel
theorem dX10_number_105 : decode cX10_number 105 = .ok (.invokestatic 33, 3) := by decide +kernel
theorem dX10_number_108 : decode cX10_number 108 = .ok (.ifCond .eq 55, 3) := by decide +kernel
theorem dX10_number_111 : decode cX10_number 111 = .ok (.bipush 10, 2) := by decide +kernel
theorem dX10_number_113 : decode cX10_number 113 = .ok (.iload_n 3, 1) := by decide +kernel
theorem dX10_number_114 : decode cX10_number 114 = .ok (.imul, 1) := by decide +kernel
theorem dX10_number_115 : decode cX10_number 115 = .ok (.aload_n 0, 1) := by decide +kernel
theorem dX10_number_116 : decode cX10_number 116 = .ok (.getfield 22, 3) := by decide +kernel
theorem dX10_number_119 : decode cX10_number 119 = .ok (.aload_n 0, 1) := by decide +kernel
theorem dX10_number_120 : decode cX10_number 120 = .ok (.getfield 146, 3) := by decide +kernel
theorem dX10_number_123 : decode cX10_number 123 = .ok (.iaload, 1) := by decide +kernel
theorem dX10_number_124 : decode cX10_number 124 = .ok (.iadd, 1) := by decide +kernel
theorem dX10_number_125 : decode cX10_number 125 = .ok (.bipush 48, 2) := by decide +kernel
theorem dX10_number_127 : decode cX10_number 127 = .ok (.isub, 1) := by decide +kernel
theorem dX10_number_128 : decode cX10_number 128 = .ok (.iload_n 2, 1) := by decide +kernel
theorem dX10_number_129 : decode cX10_number 129 = .ok (.if_icmp .gt 34, 3) := by decide +kernel
theorem dX10_number_132 : decode cX10_number 132 = .ok (.bipush 10, 2) := by decide +kernel
theorem dX10_number_134 : decode cX10_number 134 = .ok (.iload_n 3, 1) := by decide +kernel
theorem dX10_number_135 : decode cX10_number 135 = .ok (.imul, 1) := by decide +kernel
theorem dX10_number_136 : decode cX10_number 136 = .ok (.aload_n 0, 1) := by decide +kernel
theorem dX10_number_137 : decode cX10_number 137 = .ok (.getfield 22, 3) := by decide +kernel
theorem dX10_number_140 : decode cX10_number 140 = .ok (.aload_n 0, 1) := by decide +kernel
theorem dX10_number_141 : decode cX10_number 141 = .ok (.getfield 146, 3) := by decide +kernel
theorem dX10_number_144 : decode cX10_number 144 = .ok (.iaload, 1) := by decide +kernel
theorem dX10_number_145 : decode cX10_number 145 = .ok (.iadd, 1) := by decide +kernel
theorem dX10_number_146 : decode cX10_number 146 = .ok (.bipush 48, 2) := by decide +kernel
theorem dX10_number_148 : decode cX10_number 148 = .ok (.isub, 1) := by decide +kernel
theorem dX10_number_149 : decode cX10_number 149 = .ok (.istore_n 3, 1) := by decide +kernel
theorem dX10_number_150 : decode cX10_number 150 = .ok (.aload_n 0, 1) := by decide +kernel
theorem dX10_number_151 : decode cX10_number 151 = .ok (.dup, 1) := by decide +kernel
theorem dX10_number_152 : decode cX10_number 152 = .ok (.getfield 146, 3) := by decide +kernel
theorem dX10_number_155 : decode cX10_number 155 = .ok (.iconst 1, 1) := by decide +kernel
theorem dX10_number_156 : decode cX10_number 156 = .ok (.iadd, 1) := by decide +kernel
theorem dX10_number_157 : decode cX10_number 157 = .ok (.putfield 146, 3) := by decide +kernel
theorem dX10_number_160 : decode cX10_number 160 = .ok (.goto (-83), 3) := by decide +kernel
theorem dX10_number_163 : decode cX10_number 163 = .ok (.iload_n 3, 1) := by decide +kernel
theorem dX10_number_164 : decode cX10_number 164 = .ok (.ireturn, 1) := by decide +kernel
theorem dX10_command_0 : decode cX10_command 0 = .ok (.sipush (-1000), 3) := by decide +kernel
theorem dX10_command_3 : decode cX10_command 3 = .ok (.istore_n 2, 1) := by decide +kernel
theorem dX10_command_4 : decode cX10_command 4 = .ok (.aload_n 0, 1) := by decide +kernel
theorem dX10_command_5 : decode cX10_command 5 = .ok (.bipush 112, 2) := by decide +kernel
theorem dX10_command_7 : decode cX10_command 7 = .ok (.invokevirtual 152, 3) := by decide +kernel
theorem dX10_command_10 : decode cX10_command 10 = .ok (.ifCond .eq 32, 3) := by decide +kernel
theorem dX10_command_13 : decode cX10_command 13 = .ok (.aload_n 0, 1) := by decide +kernel
theorem dX10_command_14 : decode cX10_command 14 = .ok (.iconst 0, 1) := by decide +kernel
theorem dX10_command_15 : decode cX10_command 15 = .ok (.iconst 2, 1) := by decide +kernel
theorem dX10_command_16 : decode cX10_command 16 = .ok (.invokevirtual 155, 3) := by decide +kernel
theorem dX10_command_19 : decode cX10_command 19 = .ok (.istore_n 3, 1) := by decide +kernel
theorem dX10_command_20 : decode cX10_command 20 = .ok (.iload_n 3, 1) := by decide +kernel
theorem dX10_command_21 : decode cX10_command 21 = .ok (.ifCond .ge 7, 3) := by decide +kernel
theorem dX10_command_24 : decode cX10_command 24 = .ok (.iload_n 2, 1) := by decide +kernel
theorem dX10_command_25 : decode cX10_command 25 = .ok (.goto 16, 3) := by decide +kernel
theorem dX10_command_28 : decode cX10_command 28 = .ok (.iload_n 1, 1) := by decide +kernel
theorem dX10_command_29 : decode cX10_command 29 = .ok (.ifCond .eq 11, 3) := by decide +kernel
theorem dX10_command_32 : decode cX10_command 32 = .ok (.aload_n 0, 1) := by decide +kernel
theorem dX10_command_33 : decode cX10_command 33 = .ok (.iload_n 3, 1) := by decide +kernel
theorem dX10_command_34 : decode cX10_command 34 = .ok (.invokevirtual 137, 3) := by decide +kernel
theorem dX10_command_37 : decode cX10_command 37 = .ok (.goto 4, 3) := by decide +kernel
theorem dX10_command_40 : decode cX10_command 40 = .ok (.iconst 0, 1) := by decide +kernel
theorem dX10_command_41 : decode cX10_command 41 = .ok (.ireturn, 1) := by decide +kernel
theorem dX10_command_42 : decode cX10_command 42 = .ok (.aload_n 0, 1) := by decide +kernel
theorem dX10_command_43 : decode cX10_command 43 = .ok (.bipush 100, 2) := by decide +kernel
theorem dX10_command_45 : decode cX10_command 45 = .ok (.invokevirtual 152, 3) := by decide +kernel
theorem dX10_command_48 : decode cX10_command 48 = .ok (.ifCond .eq 33, 3) := by decide +kernel
theorem dX10_command_51 : decode cX10_command 51 = .ok (.aload_n 0, 1) := by decide +kernel
theorem dX10_command_52 : decode cX10_command 52 = .ok (.iconst 1, 1) := by decide +kernel
theorem dX10_command_53 : decode cX10_command 53 = .ok (.bipush 99, 2) := by decide +kernel
theorem dX10_command_55 : decode cX10_command 55 = .ok (.invokevirtual 155, 3) := by decide +kernel
theorem dX10_command_58 : decode cX10_command 58 = .ok (.istore_n 3, 1) := by decide +kernel
theorem dX10_command_59 : decode cX10_command 59 = .ok (.iload_n 3, 1) := by decide +kernel
theorem dX10_command_60 : decode cX10_command 60 = .ok (.ifCond .ge 7, 3) := by decide +kernel
theorem dX10_command_63 : decode cX10_command 63 = .ok (.iload_n 2, 1) := by decide +kernel
theorem dX10_command_64 : decode cX10_command 64 = .ok (.goto 16, 3) := by decide +kernel
theorem dX10_command_67 : decode cX10_command 67 = .ok (.iload_n 1, 1) := by decide +kernel
theorem dX10_command_68 : decode cX10_command 68 = .ok (.ifCond .eq 11, 3) := by decide +kernel
theorem dX10_command_71 : decode cX10_command 71 = .ok (.aload_n 0, 1) := by decide +kernel
theorem dX10_command_72 : decode cX10_command 72 = .ok (.iload_n 3, 1) := by decide +kernel
theorem dX10_command_73 : decode cX10_command 73 = .ok (.invokevirtual 143, 3) := by decide +kernel
theorem dX10_command_76 : decode cX10_command 76 = .ok (.goto 4, 3) := by decide +kernel
theorem dX10_command_79 : decode cX10_command 79 = .ok (.iconst 0, 1) := by decide +kernel
theorem dX10_command_80 : decode cX10_command 80 = .ok (.ireturn, 1) := by decide +kernel
theorem dX10_command_81 : decode cX10_command 81 = .ok (.aload_n 0, 1) := by decide +kernel
theorem dX10_command_82 : decode cX10_command 82 = .ok (.bipush 115, 2) := by decide +kernel
theorem dX10_command_84 : decode cX10_command 84 = .ok (.invokevirtual 152, 3) := by decide +kernel
theorem dX10_command_87 : decode cX10_command 87 = .ok (.istore_n 3, 1) := by decide +kernel
theorem dX10_command_88 : decode cX10_command 88 = .ok (.iload_n 3, 1) := by decide +kernel
theorem dX10_command_89 : decode cX10_command 89 = .ok (.ifCond .ne 14, 3) := by decide +kernel
theorem dX10_command_92 : decode cX10_command 92 = .ok (.aload_n 0, 1) := by decide +kernel
theorem dX10_command_93 : decode cX10_command 93 = .ok (.bipush 111, 2) := by decide +kernel
theorem dX10_command_95 : decode cX10_command 95 = .ok (.invokevirtual 152, 3) := by decide +kernel
theorem dX10_command_98 : decode cX10_command 98 = .ok (.ifCond .ne 5, 3) := by decide +kernel
theorem dX10_command_101 : decode cX10_command 101 = .ok (.iload_n 2, 1) := by decide +kernel
theorem dX10_command_102 : decode cX10_command 102 = .ok (.ireturn, 1) := by decide +kernel
theorem dX10_command_103 : decode cX10_command 103 = .ok (.iload_n 3, 1) := by decide +kernel
theorem dX10_command_104 : decode cX10_command 104 = .ok (.ifCond .eq 12, 3) := by decide +kernel
theorem dX10_command_107 : decode cX10_command 107 = .ok (.aload_n 0, 1) := by decide +kernel
theorem dX10_command_108 : decode cX10_command 108 = .ok (.iconst 0, 1) := by decide +kernel
theorem dX10_command_109 : decode cX10_command 109 = .ok (.iconst 3, 1) := by decide +kernel
theorem dX10_command_110 : decode cX10_command 110 = .ok (.invokevirtual 155, 3) := by decide +kernel
theorem dX10_command_113 : decode cX10_command 113 = .ok (.goto 4, 3) := by decide +kernel
theorem dX10_command_116 : decode cX10_command 116 = .ok (.iconst 0, 1) := by decide +kernel
theorem dX10_command_117 : decode cX10_command 117 = .ok (.istore 4, 2) := by decide +kernel
theorem dX10_command_119 : decode cX10_command 119 = .ok (.iload 4, 2) := by decide +kernel
theorem dX10_command_121 : decode cX10_command 121 = .ok (.ifCond .lt 16, 3) := by decide +kernel
theorem dX10_command_124 : decode cX10_command 124 = .ok (.iload_n 3, 1) := by decide +kernel
theorem dX10_command_125 : decode cX10_command 125 = .ok (.ifCond .eq 14, 3) := by decide +kernel
theorem dX10_command_128 : decode cX10_command 128 = .ok (.aload_n 0, 1) := by decide +kernel
theorem dX10_command_129 : decode cX10_command 129 = .ok (.bipush 58, 2) := by decide +kernel
theorem dX10_command_131 : decode cX10_command 131 = .ok (.invokevirtual 152, 3) := by decide +kernel
theorem dX10_command_134 : decode cX10_command 134 = .ok (.ifCond .ne 5, 3) := by decide +kernel
theorem dX10_command_137 : decode cX10_command 137 = .ok (.iload_n 2, 1) := by decide +kernel
theorem dX10_command_138 : decode cX10_command 138 = .ok (.ireturn, 1) := by decide +kernel
theorem dX10_command_139 : decode cX10_command 139 = .ok (.aload_n 0, 1) := by decide +kernel
theorem dX10_command_140 : decode cX10_command 140 = .ok (.iconst 0, 1) := by decide +kernel
theorem dX10_command_141 : decode cX10_command 141 = .ok (.iconst 2, 1) := by decide +kernel
theorem dX10_command_142 : decode cX10_command 142 = .ok (.invokevirtual 155, 3) := by decide +kernel
theorem dX10_command_145 : decode cX10_command 145 = .ok (.istore 5, 2) := by decide +kernel
theorem dX10_command_147 : decode cX10_command 147 = .ok (.iload 5, 2) := by decide +kernel
theorem dX10_command_149 : decode cX10_command 149 = .ok (.ifCond .lt 12, 3) := by decide +kernel
theorem dX10_command_152 : decode cX10_command 152 = .ok (.aload_n 0, 1) := by decide +kernel
theorem dX10_command_153 : decode cX10_command 153 = .ok (.bipush 44, 2) := by decide +kernel
theorem dX10_command_155 : decode cX10_command 155 = .ok (.invokevirtual 152, 3) := by decide +kernel
theorem dX10_command_158 : decode cX10_command 158 = .ok (.ifCond .ne 5, 3) := by decide +kernel
theorem dX10_command_161 : decode cX10_command 161 = .ok (.iload_n 2, 1) := by decide +kernel
theorem dX10_command_162 : decode cX10_command 162 = .ok (.ireturn, 1) := by decide +kernel
theorem dX10_command_163 : decode cX10_command 163 = .ok (.aload_n 0, 1) := by decide +kernel
theorem dX10_command_164 : decode cX10_command 164 = .ok (.iconst 1, 1) := by decide +kernel
theorem dX10_command_165 : decode cX10_command 165 = .ok (.bipush 99, 2) := by decide +kernel
theorem dX10_command_167 : decode cX10_command 167 = .ok (.invokevirtual 155, 3) := by decide +kernel
theorem dX10_command_170 : decode cX10_command 170 = .ok (.istore 6, 2) := by decide +kernel
theorem dX10_command_172 : decode cX10_command 172 = .ok (.iload 6, 2) := by decide +kernel
theorem dX10_command_174 : decode cX10_command 174 = .ok (.ifCond .lt 12, 3) := by decide +kernel
theorem dX10_command_177 : decode cX10_command 177 = .ok (.aload_n 0, 1) := by decide +kernel
theorem dX10_command_178 : decode cX10_command 178 = .ok (.bipush 120, 2) := by decide +kernel
theorem dX10_command_180 : decode cX10_command 180 = .ok (.invokevirtual 152, 3) := by decide +kernel
theorem dX10_command_183 : decode cX10_command 183 = .ok (.ifCond .ne 5, 3) := by decide +kernel
theorem dX10_command_186 : decode cX10_command 186 = .ok (.iload_n 2, 1) := by decide +kernel
theorem dX10_command_187 : decode cX10_command 187 = .ok (.ireturn, 1) := by decide +kernel
theorem dX10_command_188 : decode cX10_command 188 = .ok (.aload_n 0, 1) := by decide +kernel
theorem dX10_command_189 : decode cX10_command 189 = .ok (.iconst 1, 1) := by decide +kernel
theorem dX10_command_190 : decode cX10_command 190 = .ok (.bipush 99, 2) := by decide +kernel
theorem dX10_command_192 : decode cX10_command 192 = .ok (.invokevirtual 155, 3) := by decide +kernel
theorem dX10_command_195 : decode cX10_command 195 = .ok (.istore 7, 2) := by decide +kernel
theorem dX10_command_197 : decode cX10_command 197 = .ok (.iload 7, 2) := by decide +kernel
theorem dX10_command_199 : decode cX10_command 199 = .ok (.ifCond .lt 16, 3) := by decide +kernel
theorem dX10_command_202 : decode cX10_command 202 = .ok (.iload_n 3, 1) := by decide +kernel
theorem dX10_command_203 : decode cX10_command 203 = .ok (.ifCond .ne 14, 3) := by decide +kernel
theorem dX10_command_206 : decode cX10_command 206 = .ok (.aload_n 0, 1) := by decide +kernel
theorem dX10_command_207 : decode cX10_command 207 = .ok (.bipush 64, 2) := by decide +kernel
theorem dX10_command_209 : decode cX10_command 209 = .ok (.invokevirtual 152, 3) := by decide +kernel
theorem dX10_command_212 : decode cX10_command 212 = .ok (.ifCond .ne 5, 3) := by decide +kernel
theorem dX10_command_215 : decode cX10_command 215 = .ok (.iload_n 2, 1) := by decide +kernel
theorem dX10_command_216 : decode cX10_command 216 = .ok (.ireturn, 1) := by decide +kernel
theorem dX10_command_217 : decode cX10_command 217 = .ok (.iload_n 3, 1) := by decide +kernel
theorem dX10_command_218 : decode cX10_command 218 = .ok (.ifCond .eq 7, 3) := by decide +kernel
theorem dX10_command_221 : decode cX10_command 221 = .ok (.iconst 0, 1) := by decide +kernel
theorem dX10_command_222 : decode cX10_command 222 = .ok (.goto 11, 3) := by decide +kernel
theorem dX10_command_225 : decode cX10_command 225 = .ok (.aload_n 0, 1) := by decide +kernel
theorem dX10_command_226 : decode cX10_command 226 = .ok (.iconst 0, 1) := by decide +kernel
theorem dX10_command_227 : decode cX10_command 227 = .ok (.sipush 999, 3) := by decide +kernel
theorem dX10_command_230 : decode cX10_command 230 = .ok (.invokevirtual 155, 3) := by decide +kernel
theorem dX10_command_233 : decode cX10_command 233 = .ok (.istore 8, 2) := by decide +kernel
theorem dX10_command_235 : decode cX10_command 235 = .ok (.iload 8, 2) := by decide +kernel
theorem dX10_command_237 : decode cX10_command 237 = .ok (.ifCond .ge 5, 3) := by decide +kernel
theorem dX10_command_240 : decode cX10_command 240 = .ok (.iload_n 2, 1) := by decide +kernel
theorem dX10_command_241 : decode cX10_command 241 = .ok (.ireturn, 1) := by decide +kernel
theorem dX10_command_242 : decode cX10_command 242 = .ok (.iload_n 1, 1) := by decide +kernel
theorem dX10_command_243 : decode cX10_command 243 = .ok (.ifCond .ne 7, 3) := by decide +kernel
theorem dX10_command_246 : decode cX10_command 246 = .ok (.iconst 0, 1) := by decide +kernel
theorem dX10_command_247 : decode cX10_command 247 = .ok (.goto 34, 3) := by decide +kernel
theorem dX10_command_250 : decode cX10_command 250 = .ok (.iload_n 3, 1) := by decide +kernel
theorem dX10_command_251 : decode cX10_command 251 = .ok (.ifCond .eq 18, 3) := by decide +kernel
theorem dX10_command_254 : decode cX10_command 254 = .ok (.aload_n 0, 1) := by decide +kernel
theorem dX10_command_255 : decode cX10_command 255 = .ok (.iload 4, 2) := by decide +kernel
theorem dX10_command_257 : decode cX10_command 257 = .ok (.iload 5, 2) := by decide +kernel
theorem dX10_command_259 : decode cX10_command 259 = .ok (.iload 6, 2) := by decide +kernel
theorem dX10_command_261 : decode cX10_command 261 = .ok (.iload 7, 2) := by decide +kernel
theorem dX10_command_263 : decode cX10_command 263 = .ok (.invokevirtual 121, 3) := by decide +kernel
theorem dX10_command_266 : decode cX10_command 266 = .ok (.goto 15, 3) := by decide +kernel
theorem dX10_command_269 : decode cX10_command 269 = .ok (.aload_n 0, 1) := by decide +kernel
theorem dX10_command_270 : decode cX10_command 270 = .ok (.iload 5, 2) := by decide +kernel
theorem dX10_command_272 : decode cX10_command 272 = .ok (.iload 6, 2) := by decide +kernel
theorem dX10_command_274 : decode cX10_command 274 = .ok (.iload 7, 2) := by decide +kernel
theorem dX10_command_276 : decode cX10_command 276 = .ok (.iload 8, 2) := by decide +kernel
theorem dX10_command_278 : decode cX10_command 278 = .ok (.invokevirtual 127, 3) := by decide +kernel
theorem dX10_command_281 : decode cX10_command 281 = .ok (.ireturn, 1) := by decide +kernel
theorem dX10_commands_0 : decode cX10_commands 0 = .ok (.aload_n 0, 1) := by decide +kernel
theorem dX10_commands_1 : decode cX10_commands 1 = .ok (.iconst 0, 1) := by decide +kernel
theorem dX10_commands_2 : decode cX10_commands 2 = .ok (.putfield 146, 3) := by decide +kernel
theorem dX10_commands_5 : decode cX10_commands 5 = .ok (.iconst 0, 1) := by decide +kernel
theorem dX10_commands_6 : decode cX10_commands 6 = .ok (.istore_n 1, 1) := by decide +kernel
theorem dX10_commands_7 : decode cX10_commands 7 = .ok (.aload_n 0, 1) := by decide +kernel
theorem dX10_commands_8 : decode cX10_commands 8 = .ok (.iconst 0, 1) := by decide +kernel
theorem dX10_commands_9 : decode cX10_commands 9 = .ok (.invokevirtual 158, 3) := by decide +kernel
theorem dX10_commands_12 : decode cX10_commands 12 = .ok (.ifCond .lt 30, 3) := by decide +kernel
theorem dX10_commands_15 : decode cX10_commands 15 = .ok (.iinc 1 1, 3) := by decide +kernel
theorem dX10_commands_18 : decode cX10_commands 18 = .ok (.aload_n 0, 1) := by decide +kernel
theorem dX10_commands_19 : decode cX10_commands 19 = .ok (.getfield 146, 3) := by decide +kernel
theorem dX10_commands_22 : decode cX10_commands 22 = .ok (.aload_n 0, 1) := by decide +kernel
theorem dX10_commands_23 : decode cX10_commands 23 = .ok (.getfield 149, 3) := by decide +kernel
theorem dX10_commands_26 : decode cX10_commands 26 = .ok (.if_icmp .ne 5, 3) := by decide +kernel
theorem dX10_commands_29 : decode cX10_commands 29 = .ok (.iload_n 1, 1) := by decide +kernel
theorem dX10_commands_30 : decode cX10_commands 30 = .ok (.ireturn, 1) := by decide +kernel
theorem dX10_commands_31 : decode cX10_commands 31 = .ok (.aload_n 0, 1) := by decide +kernel
theorem dX10_commands_32 : decode cX10_commands 32 = .ok (.bipush 59, 2) := by decide +kernel
theorem dX10_commands_34 : decode cX10_commands 34 = .ok (.invokevirtual 152, 3) := by decide +kernel
theorem dX10_commands_37 : decode cX10_commands 37 = .ok (.ifCond .ne (-30), 3) := by decide +kernel
theorem dX10_commands_40 : decode cX10_commands 40 = .ok (.iconst 0, 1) := by decide +kernel
theorem dX10_commands_41 : decode cX10_commands 41 = .ok (.ireturn, 1) := by decide +kernel
theorem dX10_commands_42 : decode cX10_commands 42 = .ok (.iconst 0, 1) := by decide +kernel
theorem dX10_commands_43 : decode cX10_commands 43 = .ok (.ireturn, 1) := by decide +kernel
theorem dX10_perform_0 : decode cX10_perform 0 = .ok (.aload_n 0, 1) := by decide +kernel
theorem dX10_perform_1 : decode cX10_perform 1 = .ok (.invokevirtual 162, 3) := by decide +kernel
theorem dX10_perform_4 : decode cX10_perform 4 = .ok (.istore_n 1, 1) := by decide +kernel
theorem dX10_perform_5 : decode cX10_perform 5 = .ok (.iload_n 1, 1) := by decide +kernel
theorem dX10_perform_6 : decode cX10_perform 6 = .ok (.ifCond .ne 11, 3) := by decide +kernel
theorem dX10_perform_9 : decode cX10_perform 9 = .ok (.bipush (-100), 2) := by decide +kernel
theorem dX10_perform_11 : decode cX10_perform 11 = .ok (.aload_n 0, 1) := by decide +kernel
theorem dX10_perform_12 : decode cX10_perform 12 = .ok (.getfield 146, 3) := by decide +kernel
theorem dX10_perform_15 : decode cX10_perform 15 = .ok (.isub, 1) := by decide +kernel
theorem dX10_perform_16 : decode cX10_perform 16 = .ok (.ireturn, 1) := by decide +kernel
theorem dX10_perform_17 : decode cX10_perform 17 = .ok (.aload_n 0, 1) := by decide +kernel
theorem dX10_perform_18 : decode cX10_perform 18 = .ok (.getfield 7, 3) := by decide +kernel
theorem dX10_perform_21 : decode cX10_perform 21 = .ok (.aload_n 0, 1) := by decide +kernel
theorem dX10_perform_22 : decode cX10_perform 22 = .ok (.getfield 13, 3) := by decide +kernel
theorem dX10_perform_25 : decode cX10_perform 25 = .ok (.invokestatic 117, 3) := by decide +kernel
theorem dX10_perform_28 : decode cX10_perform 28 = .ok (.aload_n 0, 1) := by decide +kernel
theorem dX10_perform_29 : decode cX10_perform 29 = .ok (.iconst 0, 1) := by decide +kernel
theorem dX10_perform_30 : decode cX10_perform 30 = .ok (.putfield 146, 3) := by decide +kernel
theorem dX10_perform_33 : decode cX10_perform 33 = .ok (.iconst 0, 1) := by decide +kernel
theorem dX10_perform_34 : decode cX10_perform 34 = .ok (.istore_n 2, 1) := by decide +kernel
theorem dX10_perform_35 : decode cX10_perform 35 = .ok (.iload_n 2, 1) := by decide +kernel
theorem dX10_perform_36 : decode cX10_perform 36 = .ok (.iload_n 1, 1) := by decide +kernel
theorem dX10_perform_37 : decode cX10_perform 37 = .ok (.if_icmp .ge 42, 3) := by decide +kernel
theorem dX10_perform_40 : decode cX10_perform 40 = .ok (.aload_n 0, 1) := by decide +kernel
theorem dX10_perform_41 : decode cX10_perform 41 = .ok (.iconst 1, 1) := by decide +kernel
theorem dX10_perform_42 : decode cX10_perform 42 = .ok (.invokevirtual 158, 3) := by decide +kernel
theorem dX10_perform_45 : decode cX10_perform 45 = .ok (.istore_n 3, 1) := by decide +kernel
theorem dX10_perform_46 : decode cX10_perform 46 = .ok (.iload_n 3, 1) := by decide +kernel
theorem dX10_perform_47 : decode cX10_perform 47 = .ok (.ifCond .ge 16, 3) := by decide +kernel
theorem dX10_perform_50 : decode cX10_perform 50 = .ok (.aload_n 0, 1) := by decide +kernel
theorem dX10_perform_51 : decode cX10_perform 51 = .ok (.getfield 13, 3) := by decide +kernel
theorem dX10_perform_54 : decode cX10_perform 54 = .ok (.aload_n 0, 1) := by decide +kernel
theorem dX10_perform_55 : decode cX10_perform 55 = .ok (.getfield 7, 3) := by decide +kernel
theorem dX10_perform_58 : decode cX10_perform 58 = .ok (.invokestatic 117, 3) := by decide +kernel
theorem dX10_perform_61 : decode cX10_perform 61 = .ok (.iload_n 3, 1) := by decide +kernel
theorem dX10_perform_62 : decode cX10_perform 62 = .ok (.ireturn, 1) := by decide +kernel
theorem dX10_perform_63 : decode cX10_perform 63 = .ok (.aload_n 0, 1) := by decide +kernel
theorem dX10_perform_64 : decode cX10_perform 64 = .ok (.dup, 1) := by decide +kernel
theorem dX10_perform_65 : decode cX10_perform 65 = .ok (.getfield 146, 3) := by decide +kernel
theorem dX10_perform_68 : decode cX10_perform 68 = .ok (.iconst 1, 1) := by decide +kernel
theorem dX10_perform_69 : decode cX10_perform 69 = .ok (.iadd, 1) := by decide +kernel
theorem dX10_perform_70 : decode cX10_perform 70 = .ok (.putfield 146, 3) := by decide +kernel
theorem dX10_perform_73 : decode cX10_perform 73 = .ok (.iinc 2 1, 3) := by decide +kernel
theorem dX10_perform_76 : decode cX10_perform 76 = .ok (.goto (-41), 3) := by decide +kernel
theorem dX10_perform_79 : decode cX10_perform 79 = .ok (.aload_n 0, 1) := by decide +kernel
theorem dX10_perform_80 : decode cX10_perform 80 = .ok (.aload_n 0, 1) := by decide +kernel
theorem dX10_perform_81 : decode cX10_perform 81 = .ok (.getfield 13, 3) := by decide +kernel
theorem dX10_perform_84 : decode cX10_perform 84 = .ok (.invokevirtual 113, 3) := by decide +kernel
theorem dX10_perform_87 : decode cX10_perform 87 = .ok (.iload_n 1, 1) := by decide +kernel
theorem dX10_perform_88 : decode cX10_perform 88 = .ok (.ireturn, 1) := by decide +kernel
theorem dX10_type_0 : decode cX10_type 0 = .ok (.aload_n 0, 1) := by decide +kernel
theorem dX10_type_1 : decode cX10_type 1 = .ok (.getfield 149, 3) := by decide +kernel
theorem dX10_type_4 : decode cX10_type 4 = .ok (.bipush 60, 2) := by decide +kernel
theorem dX10_type_6 : decode cX10_type 6 = .ok (.if_icmp .ne 6, 3) := by decide +kernel
theorem dX10_type_9 : decode cX10_type 9 = .ok (.bipush (-3), 2) := by decide +kernel
theorem dX10_type_11 : decode cX10_type 11 = .ok (.ireturn, 1) := by decide +kernel
theorem dX10_type_12 : decode cX10_type 12 = .ok (.aload_n 0, 1) := by decide +kernel
theorem dX10_type_13 : decode cX10_type 13 = .ok (.getfield 22, 3) := by decide +kernel
theorem dX10_type_16 : decode cX10_type 16 = .ok (.aload_n 0, 1) := by decide +kernel
theorem dX10_type_17 : decode cX10_type 17 = .ok (.getfield 149, 3) := by decide +kernel
theorem dX10_type_20 : decode cX10_type 20 = .ok (.iload_n 1, 1) := by decide +kernel
theorem dX10_type_21 : decode cX10_type 21 = .ok (.iastore, 1) := by decide +kernel
theorem dX10_type_22 : decode cX10_type 22 = .ok (.aload_n 0, 1) := by decide +kernel
theorem dX10_type_23 : decode cX10_type 23 = .ok (.dup, 1) := by decide +kernel
theorem dX10_type_24 : decode cX10_type 24 = .ok (.getfield 149, 3) := by decide +kernel
theorem dX10_type_27 : decode cX10_type 27 = .ok (.iconst 1, 1) := by decide +kernel
theorem dX10_type_28 : decode cX10_type 28 = .ok (.iadd, 1) := by decide +kernel
theorem dX10_type_29 : decode cX10_type 29 = .ok (.putfield 149, 3) := by decide +kernel
theorem dX10_type_32 : decode cX10_type 32 = .ok (.aload_n 0, 1) := by decide +kernel
theorem dX10_type_33 : decode cX10_type 33 = .ok (.getfield 149, 3) := by decide +kernel
theorem dX10_type_36 : decode cX10_type 36 = .ok (.ireturn, 1) := by decide +kernel
theorem dX10_clearText_0 : decode cX10_clearText 0 = .ok (.aload_n 0, 1) := by decide +kernel
theorem dX10_clearText_1 : decode cX10_clearText 1 = .ok (.getfield 149, 3) := by decide +kernel
theorem dX10_clearText_4 : decode cX10_clearText 4 = .ok (.istore_n 1, 1) := by decide +kernel
theorem dX10_clearText_5 : decode cX10_clearText 5 = .ok (.aload_n 0, 1) := by decide +kernel
theorem dX10_clearText_6 : decode cX10_clearText 6 = .ok (.iconst 0, 1) := by decide +kernel
theorem dX10_clearText_7 : decode cX10_clearText 7 = .ok (.putfield 149, 3) := by decide +kernel
theorem dX10_clearText_10 : decode cX10_clearText 10 = .ok (.iload_n 1, 1) := by decide +kernel
theorem dX10_clearText_11 : decode cX10_clearText 11 = .ok (.ireturn, 1) := by decide +kernel
theorem dX10_undo_0 : decode cX10_undo 0 = .ok (.aload_n 0, 1) := by decide +kernel
theorem dX10_undo_1 : decode cX10_undo 1 = .ok (.getfield 25, 3) := by decide +kernel
theorem dX10_undo_4 : decode cX10_undo 4 = .ok (.ifCond .ne 6, 3) := by decide +kernel
theorem dX10_undo_7 : decode cX10_undo 7 = .ok (.bipush (-5), 2) := by decide +kernel
theorem dX10_undo_9 : decode cX10_undo 9 = .ok (.ireturn, 1) := by decide +kernel
theorem dX10_undo_10 : decode cX10_undo 10 = .ok (.aload_n 0, 1) := by decide +kernel
theorem dX10_undo_11 : decode cX10_undo 11 = .ok (.dup, 1) := by decide +kernel
theorem dX10_undo_12 : decode cX10_undo 12 = .ok (.getfield 25, 3) := by decide +kernel
theorem dX10_undo_15 : decode cX10_undo 15 = .ok (.iconst 1, 1) := by decide +kernel
theorem dX10_undo_16 : decode cX10_undo 16 = .ok (.isub, 1) := by decide +kernel
theorem dX10_undo_17 : decode cX10_undo 17 = .ok (.putfield 25, 3) := by decide +kernel
theorem dX10_undo_20 : decode cX10_undo 20 = .ok (.iconst 0, 1) := by decide +kernel
theorem dX10_undo_21 : decode cX10_undo 21 = .ok (.istore_n 1, 1) := by decide +kernel
theorem dX10_undo_22 : decode cX10_undo 22 = .ok (.iload_n 1, 1) := by decide +kernel
theorem dX10_undo_23 : decode cX10_undo 23 = .ok (.sipush 1134, 3) := by decide +kernel
theorem dX10_undo_26 : decode cX10_undo 26 = .ok (.if_icmp .ge 30, 3) := by decide +kernel
theorem dX10_undo_29 : decode cX10_undo 29 = .ok (.aload_n 0, 1) := by decide +kernel
theorem dX10_undo_30 : decode cX10_undo 30 = .ok (.getfield 7, 3) := by decide +kernel
theorem dX10_undo_33 : decode cX10_undo 33 = .ok (.iload_n 1, 1) := by decide +kernel
theorem dX10_undo_34 : decode cX10_undo 34 = .ok (.aload_n 0, 1) := by decide +kernel
theorem dX10_undo_35 : decode cX10_undo 35 = .ok (.getfield 19, 3) := by decide +kernel
theorem dX10_undo_38 : decode cX10_undo 38 = .ok (.sipush 1134, 3) := by decide +kernel
theorem dX10_undo_41 : decode cX10_undo 41 = .ok (.aload_n 0, 1) := by decide +kernel
theorem dX10_undo_42 : decode cX10_undo 42 = .ok (.getfield 25, 3) := by decide +kernel
theorem dX10_undo_45 : decode cX10_undo 45 = .ok (.imul, 1) := by decide +kernel
theorem dX10_undo_46 : decode cX10_undo 46 = .ok (.iload_n 1, 1) := by decide +kernel
theorem dX10_undo_47 : decode cX10_undo 47 = .ok (.iadd, 1) := by decide +kernel
theorem dX10_undo_48 : decode cX10_undo 48 = .ok (.iaload, 1) := by decide +kernel
theorem dX10_undo_49 : decode cX10_undo 49 = .ok (.iastore, 1) := by decide +kernel
theorem dX10_undo_50 : decode cX10_undo 50 = .ok (.iinc 1 1, 3) := by decide +kernel
theorem dX10_undo_53 : decode cX10_undo 53 = .ok (.goto (-31), 3) := by decide +kernel
theorem dX10_undo_56 : decode cX10_undo 56 = .ok (.aload_n 0, 1) := by decide +kernel
theorem dX10_undo_57 : decode cX10_undo 57 = .ok (.getfield 25, 3) := by decide +kernel
theorem dX10_undo_60 : decode cX10_undo 60 = .ok (.ireturn, 1) := by decide +kernel
theorem dX10_keep_0 : decode cX10_keep 0 = .ok (.aload_n 0, 1) := by decide +kernel
theorem dX10_keep_1 : decode cX10_keep 1 = .ok (.getfield 7, 3) := by decide +kernel
theorem dX10_keep_4 : decode cX10_keep 4 = .ok (.aload_n 0, 1) := by decide +kernel
theorem dX10_keep_5 : decode cX10_keep 5 = .ok (.getfield 16, 3) := by decide +kernel
theorem dX10_keep_8 : decode cX10_keep 8 = .ok (.invokestatic 117, 3) := by decide +kernel
theorem dX10_keep_11 : decode cX10_keep 11 = .ok (.aload_n 0, 1) := by decide +kernel
theorem dX10_keep_12 : decode cX10_keep 12 = .ok (.iconst 1, 1) := by decide +kernel
theorem dX10_keep_13 : decode cX10_keep 13 = .ok (.putfield 165, 3) := by decide +kernel
theorem dX10_keep_16 : decode cX10_keep 16 = .ok (.aload_n 0, 1) := by decide +kernel
theorem dX10_keep_17 : decode cX10_keep 17 = .ok (.getfield 7, 3) := by decide +kernel
theorem dX10_keep_20 : decode cX10_keep 20 = .ok (.iconst 0, 1) := by decide +kernel
theorem dX10_keep_21 : decode cX10_keep 21 = .ok (.iaload, 1) := by decide +kernel
theorem dX10_keep_22 : decode cX10_keep 22 = .ok (.ireturn, 1) := by decide +kernel
theorem dX10_restore_0 : decode cX10_restore 0 = .ok (.aload_n 0, 1) := by decide +kernel
theorem dX10_restore_1 : decode cX10_restore 1 = .ok (.getfield 165, 3) := by decide +kernel
theorem dX10_restore_4 : decode cX10_restore 4 = .ok (.ifCond .ne 6, 3) := by decide +kernel
theorem dX10_restore_7 : decode cX10_restore 7 = .ok (.bipush (-5), 2) := by decide +kernel
theorem dX10_restore_9 : decode cX10_restore 9 = .ok (.ireturn, 1) := by decide +kernel
theorem dX10_restore_10 : decode cX10_restore 10 = .ok (.aload_n 0, 1) := by decide +kernel
theorem dX10_restore_11 : decode cX10_restore 11 = .ok (.aload_n 0, 1) := by decide +kernel
theorem dX10_restore_12 : decode cX10_restore 12 = .ok (.getfield 7, 3) := by decide +kernel
theorem dX10_restore_15 : decode cX10_restore 15 = .ok (.invokevirtual 113, 3) := by decide +kernel
theorem dX10_restore_18 : decode cX10_restore 18 = .ok (.aload_n 0, 1) := by decide +kernel
theorem dX10_restore_19 : decode cX10_restore 19 = .ok (.getfield 16, 3) := by decide +kernel
theorem dX10_restore_22 : decode cX10_restore 22 = .ok (.aload_n 0, 1) := by decide +kernel
theorem dX10_restore_23 : decode cX10_restore 23 = .ok (.getfield 7, 3) := by decide +kernel
theorem dX10_restore_26 : decode cX10_restore 26 = .ok (.invokestatic 117, 3) := by decide +kernel
theorem dX10_restore_29 : decode cX10_restore 29 = .ok (.aload_n 0, 1) := by decide +kernel
theorem dX10_restore_30 : decode cX10_restore 30 = .ok (.getfield 7, 3) := by decide +kernel
theorem dX10_restore_33 : decode cX10_restore 33 = .ok (.iconst 0, 1) := by decide +kernel
theorem dX10_restore_34 : decode cX10_restore 34 = .ok (.iaload, 1) := by decide +kernel
theorem dX10_restore_35 : decode cX10_restore 35 = .ok (.ireturn, 1) := by decide +kernel
theorem dX10_sheet_0 : decode cX10_sheet 0 = .ok (.aload_n 0, 1) := by decide +kernel
theorem dX10_sheet_1 : decode cX10_sheet 1 = .ok (.iload_n 1, 1) := by decide +kernel
theorem dX10_sheet_2 : decode cX10_sheet 2 = .ok (.invokevirtual 124, 3) := by decide +kernel
theorem dX10_sheet_5 : decode cX10_sheet 5 = .ok (.ifCond .ne 5, 3) := by decide +kernel
theorem dX10_sheet_8 : decode cX10_sheet 8 = .ok (.iconst (-1), 1) := by decide +kernel
theorem dX10_sheet_9 : decode cX10_sheet 9 = .ok (.ireturn, 1) := by decide +kernel
theorem dX10_sheet_10 : decode cX10_sheet 10 = .ok (.iload_n 2, 1) := by decide +kernel
theorem dX10_sheet_11 : decode cX10_sheet 11 = .ok (.iconst 0, 1) := by decide +kernel
theorem dX10_sheet_12 : decode cX10_sheet 12 = .ok (.iconst 5, 1) := by decide +kernel
theorem dX10_sheet_13 : decode cX10_sheet 13 = .ok (.invokestatic 33, 3) := by decide +kernel
theorem dX10_sheet_16 : decode cX10_sheet 16 = .ok (.ifCond .ne 6, 3) := by decide +kernel
theorem dX10_sheet_19 : decode cX10_sheet 19 = .ok (.bipush (-2), 2) := by decide +kernel
theorem dX10_sheet_21 : decode cX10_sheet 21 = .ok (.ireturn, 1) := by decide +kernel
theorem dX10_sheet_22 : decode cX10_sheet 22 = .ok (.iload_n 2, 1) := by decide +kernel
theorem dX10_sheet_23 : decode cX10_sheet 23 = .ok (.iconst 4, 1) := by decide +kernel
theorem dX10_sheet_24 : decode cX10_sheet 24 = .ok (.if_icmp .ne 11, 3) := by decide +kernel
theorem dX10_sheet_27 : decode cX10_sheet 27 = .ok (.aload_n 0, 1) := by decide +kernel
theorem dX10_sheet_28 : decode cX10_sheet 28 = .ok (.iload_n 1, 1) := by decide +kernel
theorem dX10_sheet_29 : decode cX10_sheet 29 = .ok (.invokevirtual 54, 3) := by decide +kernel
theorem dX10_sheet_32 : decode cX10_sheet 32 = .ok (.goto 18, 3) := by decide +kernel
theorem dX10_sheet_35 : decode cX10_sheet 35 = .ok (.aload_n 0, 1) := by decide +kernel
theorem dX10_sheet_36 : decode cX10_sheet 36 = .ok (.iload_n 1, 1) := by decide +kernel
theorem dX10_sheet_37 : decode cX10_sheet 37 = .ok (.iload_n 2, 1) := by decide +kernel
theorem dX10_sheet_38 : decode cX10_sheet 38 = .ok (.iconst 5, 1) := by decide +kernel
theorem dX10_sheet_39 : decode cX10_sheet 39 = .ok (.if_icmp .ne 7, 3) := by decide +kernel
theorem dX10_sheet_42 : decode cX10_sheet 42 = .ok (.iconst 4, 1) := by decide +kernel
theorem dX10_sheet_43 : decode cX10_sheet 43 = .ok (.goto 4, 3) := by decide +kernel
theorem dX10_sheet_46 : decode cX10_sheet 46 = .ok (.iload_n 2, 1) := by decide +kernel
theorem dX10_sheet_47 : decode cX10_sheet 47 = .ok (.invokevirtual 29, 3) := by decide +kernel
theorem dX10_sheet_50 : decode cX10_sheet 50 = .ok (.ireturn, 1) := by decide +kernel
theorem dX10_at_0 : decode cX10_at 0 = .ok (.iload_n 1, 1) := by decide +kernel
theorem dX10_at_1 : decode cX10_at 1 = .ok (.iconst 0, 1) := by decide +kernel
theorem dX10_at_2 : decode cX10_at 2 = .ok (.iconst 3, 1) := by decide +kernel
theorem dX10_at_3 : decode cX10_at 3 = .ok (.invokestatic 33, 3) := by decide +kernel
theorem dX10_at_6 : decode cX10_at 6 = .ok (.ifCond .ne 5, 3) := by decide +kernel
theorem dX10_at_9 : decode cX10_at 9 = .ok (.iconst (-1), 1) := by decide +kernel
theorem dX10_at_10 : decode cX10_at 10 = .ok (.ireturn, 1) := by decide +kernel
theorem dX10_at_11 : decode cX10_at 11 = .ok (.iload_n 2, 1) := by decide +kernel
theorem dX10_at_12 : decode cX10_at 12 = .ok (.ifCond .ge 6, 3) := by decide +kernel
theorem dX10_at_15 : decode cX10_at 15 = .ok (.bipush (-2), 2) := by decide +kernel
theorem dX10_at_17 : decode cX10_at 17 = .ok (.ireturn, 1) := by decide +kernel
theorem dX10_at_18 : decode cX10_at 18 = .ok (.iload_n 2, 1) := by decide +kernel
theorem dX10_at_19 : decode cX10_at 19 = .ok (.aload_n 0, 1) := by decide +kernel
theorem dX10_at_20 : decode cX10_at 20 = .ok (.iload_n 1, 1) := by decide +kernel
theorem dX10_at_21 : decode cX10_at 21 = .ok (.invokevirtual 40, 3) := by decide +kernel
theorem dX10_at_24 : decode cX10_at 24 = .ok (.if_icmp .ge 12, 3) := by decide +kernel
theorem dX10_at_27 : decode cX10_at 27 = .ok (.aload_n 0, 1) := by decide +kernel
theorem dX10_at_28 : decode cX10_at 28 = .ok (.iload_n 1, 1) := by decide +kernel
theorem dX10_at_29 : decode cX10_at 29 = .ok (.iload_n 2, 1) := by decide +kernel
theorem dX10_at_30 : decode cX10_at 30 = .ok (.invokevirtual 37, 3) := by decide +kernel
theorem dX10_at_33 : decode cX10_at 33 = .ok (.goto 5, 3) := by decide +kernel
theorem dX10_at_36 : decode cX10_at 36 = .ok (.bipush (-5), 2) := by decide +kernel
theorem dX10_at_38 : decode cX10_at 38 = .ok (.ireturn, 1) := by decide +kernel
theorem dX10_ordered_0 : decode cX10_ordered 0 = .ok (.aload_n 0, 1) := by decide +kernel
theorem dX10_ordered_1 : decode cX10_ordered 1 = .ok (.iload_n 1, 1) := by decide +kernel
theorem dX10_ordered_2 : decode cX10_ordered 2 = .ok (.invokevirtual 130, 3) := by decide +kernel
theorem dX10_ordered_5 : decode cX10_ordered 5 = .ok (.ifCond .ne 5, 3) := by decide +kernel
theorem dX10_ordered_8 : decode cX10_ordered 8 = .ok (.iconst (-1), 1) := by decide +kernel
theorem dX10_ordered_9 : decode cX10_ordered 9 = .ok (.ireturn, 1) := by decide +kernel
theorem dX10_ordered_10 : decode cX10_ordered 10 = .ok (.iload_n 2, 1) := by decide +kernel
theorem dX10_ordered_11 : decode cX10_ordered 11 = .ok (.iconst 0, 1) := by decide +kernel
theorem dX10_ordered_12 : decode cX10_ordered 12 = .ok (.bipush 7, 2) := by decide +kernel
theorem dX10_ordered_14 : decode cX10_ordered 14 = .ok (.invokestatic 33, 3) := by decide +kernel
theorem dX10_ordered_17 : decode cX10_ordered 17 = .ok (.ifCond .ne 6, 3) := by decide +kernel
theorem dX10_ordered_20 : decode cX10_ordered 20 = .ok (.bipush (-2), 2) := by decide +kernel
theorem dX10_ordered_22 : decode cX10_ordered 22 = .ok (.ireturn, 1) := by decide +kernel
theorem dX10_ordered_23 : decode cX10_ordered 23 = .ok (.iload_n 2, 1) := by decide +kernel
theorem dX10_ordered_24 : decode cX10_ordered 24 = .ok (.bipush 7, 2) := by decide +kernel
theorem dX10_ordered_26 : decode cX10_ordered 26 = .ok (.if_icmp .ne 17, 3) := by decide +kernel
theorem dX10_ordered_29 : decode cX10_ordered 29 = .ok (.aload_n 0, 1) := by decide +kernel
theorem dX10_ordered_30 : decode cX10_ordered 30 = .ok (.iload_n 1, 1) := by decide +kernel
theorem dX10_ordered_31 : decode cX10_ordered 31 = .ok (.invokevirtual 101, 3) := by decide +kernel
theorem dX10_ordered_34 : decode cX10_ordered 34 = .ok (.ifCond .eq 7, 3) := by decide +kernel
theorem dX10_ordered_37 : decode cX10_ordered 37 = .ok (.iconst 1, 1) := by decide +kernel
theorem dX10_ordered_38 : decode cX10_ordered 38 = .ok (.goto 4, 3) := by decide +kernel
theorem dX10_ordered_41 : decode cX10_ordered 41 = .ok (.iconst 0, 1) := by decide +kernel
theorem dX10_ordered_42 : decode cX10_ordered 42 = .ok (.ireturn, 1) := by decide +kernel
theorem dX10_ordered_43 : decode cX10_ordered 43 = .ok (.iload_n 2, 1) := by decide +kernel
theorem dX10_ordered_44 : decode cX10_ordered 44 = .ok (.iconst 4, 1) := by decide +kernel
theorem dX10_ordered_45 : decode cX10_ordered 45 = .ok (.if_icmp .le 18, 3) := by decide +kernel
theorem dX10_ordered_48 : decode cX10_ordered 48 = .ok (.aload_n 0, 1) := by decide +kernel
theorem dX10_ordered_49 : decode cX10_ordered 49 = .ok (.iload_n 1, 1) := by decide +kernel
theorem dX10_ordered_50 : decode cX10_ordered 50 = .ok (.iconst 4, 1) := by decide +kernel
theorem dX10_ordered_51 : decode cX10_ordered 51 = .ok (.invokevirtual 61, 3) := by decide +kernel
theorem dX10_ordered_54 : decode cX10_ordered 54 = .ok (.iconst 1, 1) := by decide +kernel
theorem dX10_ordered_55 : decode cX10_ordered 55 = .ok (.if_icmp .eq 8, 3) := by decide +kernel
theorem dX10_ordered_58 : decode cX10_ordered 58 = .ok (.bipush (-5), 2) := by decide +kernel
theorem dX10_ordered_60 : decode cX10_ordered 60 = .ok (.goto 9, 3) := by decide +kernel
theorem dX10_ordered_63 : decode cX10_ordered 63 = .ok (.aload_n 0, 1) := by decide +kernel
theorem dX10_ordered_64 : decode cX10_ordered 64 = .ok (.iload_n 1, 1) := by decide +kernel
theorem dX10_ordered_65 : decode cX10_ordered 65 = .ok (.iload_n 2, 1) := by decide +kernel
theorem dX10_ordered_66 : decode cX10_ordered 66 = .ok (.invokevirtual 61, 3) := by decide +kernel
theorem dX10_ordered_69 : decode cX10_ordered 69 = .ok (.ireturn, 1) := by decide +kernel
theorem dX10_would_0 : decode cX10_would 0 = .ok (.aload_n 0, 1) := by decide +kernel
theorem dX10_would_1 : decode cX10_would 1 = .ok (.iload_n 1, 1) := by decide +kernel
theorem dX10_would_2 : decode cX10_would 2 = .ok (.invokevirtual 130, 3) := by decide +kernel
theorem dX10_would_5 : decode cX10_would 5 = .ok (.ifCond .eq 11, 3) := by decide +kernel
theorem dX10_would_8 : decode cX10_would 8 = .ok (.aload_n 0, 1) := by decide +kernel
theorem dX10_would_9 : decode cX10_would 9 = .ok (.iload_n 2, 1) := by decide +kernel
theorem dX10_would_10 : decode cX10_would 10 = .ok (.invokevirtual 124, 3) := by decide +kernel
theorem dX10_would_13 : decode cX10_would 13 = .ok (.ifCond .ne 5, 3) := by decide +kernel
theorem dX10_would_16 : decode cX10_would 16 = .ok (.iconst (-1), 1) := by decide +kernel
theorem dX10_would_17 : decode cX10_would 17 = .ok (.ireturn, 1) := by decide +kernel
theorem dX10_would_18 : decode cX10_would 18 = .ok (.iload_n 3, 1) := by decide +kernel
theorem dX10_would_19 : decode cX10_would 19 = .ok (.iconst 0, 1) := by decide +kernel
theorem dX10_would_20 : decode cX10_would 20 = .ok (.bipush 6, 2) := by decide +kernel
theorem dX10_would_22 : decode cX10_would 22 = .ok (.invokestatic 33, 3) := by decide +kernel
theorem dX10_would_25 : decode cX10_would 25 = .ok (.ifCond .ne 6, 3) := by decide +kernel
theorem dX10_would_28 : decode cX10_would 28 = .ok (.bipush (-2), 2) := by decide +kernel
theorem dX10_would_30 : decode cX10_would 30 = .ok (.ireturn, 1) := by decide +kernel
theorem dX10_would_31 : decode cX10_would 31 = .ok (.aload_n 0, 1) := by decide +kernel
theorem dX10_would_32 : decode cX10_would 32 = .ok (.iload_n 1, 1) := by decide +kernel
theorem dX10_would_33 : decode cX10_would 33 = .ok (.iload_n 2, 1) := by decide +kernel
theorem dX10_would_34 : decode cX10_would 34 = .ok (.invokevirtual 67, 3) := by decide +kernel
theorem dX10_would_37 : decode cX10_would 37 = .ok (.istore 4, 2) := by decide +kernel
theorem dX10_would_39 : decode cX10_would 39 = .ok (.iload 4, 2) := by decide +kernel
theorem dX10_would_41 : decode cX10_would 41 = .ok (.ifCond .ge 6, 3) := by decide +kernel
theorem dX10_would_44 : decode cX10_would 44 = .ok (.bipush (-5), 2) := by decide +kernel
theorem dX10_would_46 : decode cX10_would 46 = .ok (.ireturn, 1) := by decide +kernel
theorem dX10_would_47 : decode cX10_would 47 = .ok (.iload_n 3, 1) := by decide +kernel
theorem dX10_would_48 : decode cX10_would 48 = .ok (.iconst 3, 1) := by decide +kernel
theorem dX10_would_49 : decode cX10_would 49 = .ok (.if_icmp .ge 22, 3) := by decide +kernel
theorem dX10_would_52 : decode cX10_would 52 = .ok (.iload_n 3, 1) := by decide +kernel
theorem dX10_would_53 : decode cX10_would 53 = .ok (.ifCond .ne 8, 3) := by decide +kernel
theorem dX10_would_56 : decode cX10_would 56 = .ok (.iload 4, 2) := by decide +kernel
theorem dX10_would_58 : decode cX10_would 58 = .ok (.goto 12, 3) := by decide +kernel
theorem dX10_would_61 : decode cX10_would 61 = .ok (.aload_n 0, 1) := by decide +kernel
theorem dX10_would_62 : decode cX10_would 62 = .ok (.iload_n 1, 1) := by decide +kernel
theorem dX10_would_63 : decode cX10_would 63 = .ok (.iload_n 2, 1) := by decide +kernel
theorem dX10_would_64 : decode cX10_would 64 = .ok (.iload_n 3, 1) := by decide +kernel
theorem dX10_would_65 : decode cX10_would 65 = .ok (.iconst 1, 1) := by decide +kernel
theorem dX10_would_66 : decode cX10_would 66 = .ok (.isub, 1) := by decide +kernel
theorem dX10_would_67 : decode cX10_would 67 = .ok (.invokevirtual 77, 3) := by decide +kernel
theorem dX10_would_70 : decode cX10_would 70 = .ok (.ireturn, 1) := by decide +kernel
theorem dX10_would_71 : decode cX10_would 71 = .ok (.iload_n 3, 1) := by decide +kernel
theorem dX10_would_72 : decode cX10_would 72 = .ok (.bipush 6, 2) := by decide +kernel
theorem dX10_would_74 : decode cX10_would 74 = .ok (.if_icmp .ne 11, 3) := by decide +kernel
theorem dX10_would_77 : decode cX10_would 77 = .ok (.iconst 1, 1) := by decide +kernel
theorem dX10_would_78 : decode cX10_would 78 = .ok (.aload_n 0, 1) := by decide +kernel
theorem dX10_would_79 : decode cX10_would 79 = .ok (.iload_n 2, 1) := by decide +kernel
theorem dX10_would_80 : decode cX10_would 80 = .ok (.invokevirtual 54, 3) := by decide +kernel
theorem dX10_would_83 : decode cX10_would 83 = .ok (.iadd, 1) := by decide +kernel
theorem dX10_would_84 : decode cX10_would 84 = .ok (.ireturn, 1) := by decide +kernel
theorem dX10_would_85 : decode cX10_would 85 = .ok (.aload_n 0, 1) := by decide +kernel
theorem dX10_would_86 : decode cX10_would 86 = .ok (.iload_n 1, 1) := by decide +kernel
theorem dX10_would_87 : decode cX10_would 87 = .ok (.iload_n 2, 1) := by decide +kernel
theorem dX10_would_88 : decode cX10_would 88 = .ok (.iconst 0, 1) := by decide +kernel
theorem dX10_would_89 : decode cX10_would 89 = .ok (.invokevirtual 77, 3) := by decide +kernel
theorem dX10_would_92 : decode cX10_would 92 = .ok (.aload_n 0, 1) := by decide +kernel
theorem dX10_would_93 : decode cX10_would 93 = .ok (.iload_n 1, 1) := by decide +kernel
theorem dX10_would_94 : decode cX10_would 94 = .ok (.iload_n 2, 1) := by decide +kernel
theorem dX10_would_95 : decode cX10_would 95 = .ok (.iconst 1, 1) := by decide +kernel
theorem dX10_would_96 : decode cX10_would 96 = .ok (.invokevirtual 77, 3) := by decide +kernel
theorem dX10_would_99 : decode cX10_would 99 = .ok (.iadd, 1) := by decide +kernel
theorem dX10_would_100 : decode cX10_would 100 = .ok (.istore 5, 2) := by decide +kernel
theorem dX10_would_102 : decode cX10_would 102 = .ok (.iload_n 3, 1) := by decide +kernel
theorem dX10_would_103 : decode cX10_would 103 = .ok (.iconst 3, 1) := by decide +kernel
theorem dX10_would_104 : decode cX10_would 104 = .ok (.if_icmp .ne 12, 3) := by decide +kernel
theorem dX10_would_107 : decode cX10_would 107 = .ok (.aload_n 0, 1) := by decide +kernel
theorem dX10_would_108 : decode cX10_would 108 = .ok (.iload_n 1, 1) := by decide +kernel
theorem dX10_would_109 : decode cX10_would 109 = .ok (.iload_n 2, 1) := by decide +kernel
theorem dX10_would_110 : decode cX10_would 110 = .ok (.invokevirtual 81, 3) := by decide +kernel
theorem dX10_would_113 : decode cX10_would 113 = .ok (.goto 39, 3) := by decide +kernel
theorem dX10_would_116 : decode cX10_would 116 = .ok (.iload_n 3, 1) := by decide +kernel
theorem dX10_would_117 : decode cX10_would 117 = .ok (.iconst 4, 1) := by decide +kernel
theorem dX10_would_118 : decode cX10_would 118 = .ok (.if_icmp .ne 12, 3) := by decide +kernel
theorem dX10_would_121 : decode cX10_would 121 = .ok (.aload_n 0, 1) := by decide +kernel
theorem dX10_would_122 : decode cX10_would 122 = .ok (.iload_n 1, 1) := by decide +kernel
theorem dX10_would_123 : decode cX10_would 123 = .ok (.iload_n 2, 1) := by decide +kernel
theorem dX10_would_124 : decode cX10_would 124 = .ok (.invokevirtual 91, 3) := by decide +kernel
theorem dX10_would_127 : decode cX10_would 127 = .ok (.goto 25, 3) := by decide +kernel
theorem dX10_would_130 : decode cX10_would 130 = .ok (.aload_n 0, 1) := by decide +kernel
theorem dX10_would_131 : decode cX10_would 131 = .ok (.iload_n 2, 1) := by decide +kernel
theorem dX10_would_132 : decode cX10_would 132 = .ok (.invokevirtual 51, 3) := by decide +kernel
theorem dX10_would_135 : decode cX10_would 135 = .ok (.aload_n 0, 1) := by decide +kernel
theorem dX10_would_136 : decode cX10_would 136 = .ok (.iload_n 1, 1) := by decide +kernel
theorem dX10_would_137 : decode cX10_would 137 = .ok (.iconst 1, 1) := by decide +kernel
theorem dX10_would_138 : decode cX10_would 138 = .ok (.invokevirtual 61, 3) := by decide +kernel
theorem dX10_would_141 : decode cX10_would 141 = .ok (.aload_n 0, 1) := by decide +kernel
theorem dX10_would_142 : decode cX10_would 142 = .ok (.iload_n 1, 1) := by decide +kernel
theorem dX10_would_143 : decode cX10_would 143 = .ok (.iconst 2, 1) := by decide +kernel
theorem dX10_would_144 : decode cX10_would 144 = .ok (.invokevirtual 61, 3) := by decide +kernel
theorem dX10_would_147 : decode cX10_would 147 = .ok (.imul, 1) := by decide +kernel
theorem dX10_would_148 : decode cX10_would 148 = .ok (.isub, 1) := by decide +kernel
theorem dX10_would_149 : decode cX10_would 149 = .ok (.iload 5, 2) := by decide +kernel
theorem dX10_would_151 : decode cX10_would 151 = .ok (.isub, 1) := by decide +kernel
theorem dX10_would_152 : decode cX10_would 152 = .ok (.ireturn, 1) := by decide +kernel
theorem dX10_choice_0 : decode cX10_choice 0 = .ok (.aload_n 0, 1) := by decide +kernel
theorem dX10_choice_1 : decode cX10_choice 1 = .ok (.iload_n 1, 1) := by decide +kernel
theorem dX10_choice_2 : decode cX10_choice 2 = .ok (.invokevirtual 130, 3) := by decide +kernel
theorem dX10_choice_5 : decode cX10_choice 5 = .ok (.ifCond .ne 5, 3) := by decide +kernel
theorem dX10_choice_8 : decode cX10_choice 8 = .ok (.iconst (-1), 1) := by decide +kernel
theorem dX10_choice_9 : decode cX10_choice 9 = .ok (.ireturn, 1) := by decide +kernel
theorem dX10_choice_10 : decode cX10_choice 10 = .ok (.iload_n 2, 1) := by decide +kernel
theorem dX10_choice_11 : decode cX10_choice 11 = .ok (.iconst 0, 1) := by decide +kernel
theorem dX10_choice_12 : decode cX10_choice 12 = .ok (.iconst 2, 1) := by decide +kernel
theorem dX10_choice_13 : decode cX10_choice 13 = .ok (.invokestatic 33, 3) := by decide +kernel
theorem dX10_choice_16 : decode cX10_choice 16 = .ok (.ifCond .ne 6, 3) := by decide +kernel
theorem dX10_choice_19 : decode cX10_choice 19 = .ok (.bipush (-2), 2) := by decide +kernel
theorem dX10_choice_21 : decode cX10_choice 21 = .ok (.ireturn, 1) := by decide +kernel
theorem dX10_choice_22 : decode cX10_choice 22 = .ok (.aload_n 0, 1) := by decide +kernel
theorem dX10_choice_23 : decode cX10_choice 23 = .ok (.iload_n 1, 1) := by decide +kernel
theorem dX10_choice_24 : decode cX10_choice 24 = .ok (.invokevirtual 64, 3) := by decide +kernel
theorem dX10_choice_27 : decode cX10_choice 27 = .ok (.ifCond .eq 12, 3) := by decide +kernel
theorem dX10_choice_30 : decode cX10_choice 30 = .ok (.aload_n 0, 1) := by decide +kernel
theorem dX10_choice_31 : decode cX10_choice 31 = .ok (.iload_n 1, 1) := by decide +kernel
theorem dX10_choice_32 : decode cX10_choice 32 = .ok (.iload_n 2, 1) := by decide +kernel
theorem dX10_choice_33 : decode cX10_choice 33 = .ok (.invokevirtual 107, 3) := by decide +kernel
theorem dX10_choice_36 : decode cX10_choice 36 = .ok (.goto 5, 3) := by decide +kernel
theorem dX10_choice_39 : decode cX10_choice 39 = .ok (.bipush (-4), 2) := by decide +kernel
theorem dX10_choice_41 : decode cX10_choice 41 = .ok (.ireturn, 1) := by decide +kernel
theorem dX10_next_0 : decode cX10_next 0 = .ok (.iload_n 1, 1) := by decide +kernel
theorem dX10_next_1 : decode cX10_next 1 = .ok (.ifCond .ge 6, 3) := by decide +kernel
theorem dX10_next_4 : decode cX10_next 4 = .ok (.bipush (-2), 2) := by decide +kernel
theorem dX10_next_6 : decode cX10_next 6 = .ok (.ireturn, 1) := by decide +kernel
theorem dX10_next_7 : decode cX10_next 7 = .ok (.iconst 0, 1) := by decide +kernel
theorem dX10_next_8 : decode cX10_next 8 = .ok (.istore_n 2, 1) := by decide +kernel
theorem dX10_next_9 : decode cX10_next 9 = .ok (.aload_n 0, 1) := by decide +kernel
theorem dX10_next_10 : decode cX10_next 10 = .ok (.iconst 0, 1) := by decide +kernel
theorem dX10_next_11 : decode cX10_next 11 = .ok (.invokevirtual 104, 3) := by decide +kernel
theorem dX10_next_14 : decode cX10_next 14 = .ok (.istore_n 3, 1) := by decide +kernel
theorem dX10_next_15 : decode cX10_next 15 = .ok (.iconst 0, 1) := by decide +kernel
theorem dX10_next_16 : decode cX10_next 16 = .ok (.istore 4, 2) := by decide +kernel
theorem dX10_next_18 : decode cX10_next 18 = .ok (.iload 4, 2) := by decide +kernel
theorem dX10_next_20 : decode cX10_next 20 = .ok (.iload_n 1, 1) := by decide +kernel
theorem dX10_next_21 : decode cX10_next 21 = .ok (.if_icmp .ge 27, 3) := by decide +kernel
theorem dX10_next_24 : decode cX10_next 24 = .ok (.iload_n 3, 1) := by decide +kernel
theorem dX10_next_25 : decode cX10_next 25 = .ok (.bipush (-5), 2) := by decide +kernel
theorem dX10_next_27 : decode cX10_next 27 = .ok (.if_icmp .eq 21, 3) := by decide +kernel
theorem dX10_next_30 : decode cX10_next 30 = .ok (.iload_n 2, 1) := by decide +kernel
theorem dX10_next_31 : decode cX10_next 31 = .ok (.iconst 1, 1) := by decide +kernel
theorem dX10_next_32 : decode cX10_next 32 = .ok (.iload_n 3, 1) := by decide +kernel
theorem dX10_next_33 : decode cX10_next 33 = .ok (.ishl, 1) := by decide +kernel
theorem dX10_next_34 : decode cX10_next 34 = .ok (.ior, 1) := by decide +kernel
theorem dX10_next_35 : decode cX10_next 35 = .ok (.istore_n 2, 1) := by decide +kernel
theorem dX10_next_36 : decode cX10_next 36 = .ok (.aload_n 0, 1) := by decide +kernel
theorem dX10_next_37 : decode cX10_next 37 = .ok (.iload_n 2, 1) := by decide +kernel
theorem dX10_next_38 : decode cX10_next 38 = .ok (.invokevirtual 104, 3) := by decide +kernel
theorem dX10_next_41 : decode cX10_next 41 = .ok (.istore_n 3, 1) := by decide +kernel
theorem dX10_next_42 : decode cX10_next 42 = .ok (.iinc 4 1, 3) := by decide +kernel
theorem dX10_next_45 : decode cX10_next 45 = .ok (.goto (-27), 3) := by decide +kernel
theorem dX10_next_48 : decode cX10_next 48 = .ok (.iload_n 3, 1) := by decide +kernel
theorem dX10_next_49 : decode cX10_next 49 = .ok (.ireturn, 1) := by decide +kernel
theorem dX10_wouldPlan_0 : decode cX10_wouldPlan 0 = .ok (.iload_n 1, 1) := by decide +kernel
theorem dX10_wouldPlan_1 : decode cX10_wouldPlan 1 = .ok (.iconst 0, 1) := by decide +kernel
theorem dX10_wouldPlan_2 : decode cX10_wouldPlan 2 = .ok (.iconst 2, 1) := by decide +kernel
theorem dX10_wouldPlan_3 : decode cX10_wouldPlan 3 = .ok (.invokestatic 33, 3) := by decide +kernel
theorem dX10_wouldPlan_6 : decode cX10_wouldPlan 6 = .ok (.ifCond .eq 12, 3) := by decide +kernel
theorem dX10_wouldPlan_9 : decode cX10_wouldPlan 9 = .ok (.iload_n 2, 1) := by decide +kernel
theorem dX10_wouldPlan_10 : decode cX10_wouldPlan 10 = .ok (.iconst 0, 1) := by decide +kernel
theorem dX10_wouldPlan_11 : decode cX10_wouldPlan 11 = .ok (.iconst 3, 1) := by decide +kernel
theorem dX10_wouldPlan_12 : decode cX10_wouldPlan 12 = .ok (.invokestatic 33, 3) := by decide +kernel
theorem dX10_wouldPlan_15 : decode cX10_wouldPlan 15 = .ok (.ifCond .ne 6, 3) := by decide +kernel
theorem dX10_wouldPlan_18 : decode cX10_wouldPlan 18 = .ok (.bipush (-2), 2) := by decide +kernel
theorem dX10_wouldPlan_20 : decode cX10_wouldPlan 20 = .ok (.ireturn, 1) := by decide +kernel
theorem dX10_wouldPlan_21 : decode cX10_wouldPlan 21 = .ok (.aload_n 0, 1) := by decide +kernel
theorem dX10_wouldPlan_22 : decode cX10_wouldPlan 22 = .ok (.getfield 7, 3) := by decide +kernel
theorem dX10_wouldPlan_25 : decode cX10_wouldPlan 25 = .ok (.aload_n 0, 1) := by decide +kernel
theorem dX10_wouldPlan_26 : decode cX10_wouldPlan 26 = .ok (.getfield 13, 3) := by decide +kernel
theorem dX10_wouldPlan_29 : decode cX10_wouldPlan 29 = .ok (.invokestatic 117, 3) := by decide +kernel
theorem dX10_wouldPlan_32 : decode cX10_wouldPlan 32 = .ok (.aload_n 0, 1) := by decide +kernel
theorem dX10_wouldPlan_33 : decode cX10_wouldPlan 33 = .ok (.iload_n 1, 1) := by decide +kernel
theorem dX10_wouldPlan_34 : decode cX10_wouldPlan 34 = .ok (.invokevirtual 137, 3) := by decide +kernel
theorem dX10_wouldPlan_37 : decode cX10_wouldPlan 37 = .ok (.istore_n 3, 1) := by decide +kernel
theorem dX10_wouldPlan_38 : decode cX10_wouldPlan 38 = .ok (.iload_n 2, 1) := by decide +kernel
theorem dX10_wouldPlan_39 : decode cX10_wouldPlan 39 = .ok (.iconst 1, 1) := by decide +kernel
theorem dX10_wouldPlan_40 : decode cX10_wouldPlan 40 = .ok (.if_icmp .ne 7, 3) := by decide +kernel
theorem dX10_wouldPlan_43 : decode cX10_wouldPlan 43 = .ok (.iconst 3, 1) := by decide +kernel
theorem dX10_wouldPlan_44 : decode cX10_wouldPlan 44 = .ok (.goto 14, 3) := by decide +kernel
theorem dX10_wouldPlan_47 : decode cX10_wouldPlan 47 = .ok (.iload_n 2, 1) := by decide +kernel
theorem dX10_wouldPlan_48 : decode cX10_wouldPlan 48 = .ok (.iconst 2, 1) := by decide +kernel
theorem dX10_wouldPlan_49 : decode cX10_wouldPlan 49 = .ok (.if_icmp .ne 8, 3) := by decide +kernel
theorem dX10_wouldPlan_52 : decode cX10_wouldPlan 52 = .ok (.bipush 6, 2) := by decide +kernel
theorem dX10_wouldPlan_54 : decode cX10_wouldPlan 54 = .ok (.goto 4, 3) := by decide +kernel
theorem dX10_wouldPlan_57 : decode cX10_wouldPlan 57 = .ok (.iconst 4, 1) := by decide +kernel
theorem dX10_wouldPlan_58 : decode cX10_wouldPlan 58 = .ok (.istore 4, 2) := by decide +kernel
theorem dX10_wouldPlan_60 : decode cX10_wouldPlan 60 = .ok (.iload_n 2, 1) := by decide +kernel
theorem dX10_wouldPlan_61 : decode cX10_wouldPlan 61 = .ok (.ifCond .ne 7, 3) := by decide +kernel
theorem dX10_wouldPlan_64 : decode cX10_wouldPlan 64 = .ok (.iload_n 3, 1) := by decide +kernel
theorem dX10_wouldPlan_65 : decode cX10_wouldPlan 65 = .ok (.goto 18, 3) := by decide +kernel
theorem dX10_wouldPlan_68 : decode cX10_wouldPlan 68 = .ok (.aload_n 0, 1) := by decide +kernel
theorem dX10_wouldPlan_69 : decode cX10_wouldPlan 69 = .ok (.getfield 7, 3) := by decide +kernel
theorem dX10_wouldPlan_72 : decode cX10_wouldPlan 72 = .ok (.iload 4, 2) := by decide +kernel
theorem dX10_wouldPlan_74 : decode cX10_wouldPlan 74 = .ok (.iaload, 1) := by decide +kernel
theorem dX10_wouldPlan_75 : decode cX10_wouldPlan 75 = .ok (.aload_n 0, 1) := by decide +kernel
theorem dX10_wouldPlan_76 : decode cX10_wouldPlan 76 = .ok (.getfield 13, 3) := by decide +kernel
theorem dX10_wouldPlan_79 : decode cX10_wouldPlan 79 = .ok (.iload 4, 2) := by decide +kernel
theorem dX10_wouldPlan_81 : decode cX10_wouldPlan 81 = .ok (.iaload, 1) := by decide +kernel
theorem dX10_wouldPlan_82 : decode cX10_wouldPlan 82 = .ok (.isub, 1) := by decide +kernel
theorem dX10_wouldPlan_83 : decode cX10_wouldPlan 83 = .ok (.istore 5, 2) := by decide +kernel
theorem dX10_wouldPlan_85 : decode cX10_wouldPlan 85 = .ok (.aload_n 0, 1) := by decide +kernel
theorem dX10_wouldPlan_86 : decode cX10_wouldPlan 86 = .ok (.getfield 13, 3) := by decide +kernel
theorem dX10_wouldPlan_89 : decode cX10_wouldPlan 89 = .ok (.aload_n 0, 1) := by decide +kernel
theorem dX10_wouldPlan_90 : decode cX10_wouldPlan 90 = .ok (.getfield 7, 3) := by decide +kernel
theorem dX10_wouldPlan_93 : decode cX10_wouldPlan 93 = .ok (.invokestatic 117, 3) := by decide +kernel
theorem dX10_wouldPlan_96 : decode cX10_wouldPlan 96 = .ok (.iload 5, 2) := by decide +kernel
theorem dX10_wouldPlan_98 : decode cX10_wouldPlan 98 = .ok (.ireturn, 1) := by decide +kernel
theorem dX10_count_0 : decode cX10_count 0 = .ok (.iconst 0, 1) := by decide +kernel
theorem dX10_count_1 : decode cX10_count 1 = .ok (.istore_n 2, 1) := by decide +kernel
theorem dX10_count_2 : decode cX10_count 2 = .ok (.iconst 0, 1) := by decide +kernel
theorem dX10_count_3 : decode cX10_count 3 = .ok (.istore_n 3, 1) := by decide +kernel
theorem dX10_count_4 : decode cX10_count 4 = .ok (.iconst 0, 1) := by decide +kernel
theorem dX10_count_5 : decode cX10_count 5 = .ok (.istore 4, 2) := by decide +kernel
theorem dX10_count_7 : decode cX10_count 7 = .ok (.iload 4, 2) := by decide +kernel
theorem dX10_count_9 : decode cX10_count 9 = .ok (.aload_n 0, 1) := by decide +kernel
theorem dX10_count_10 : decode cX10_count 10 = .ok (.getfield 7, 3) := by decide +kernel
theorem dX10_count_13 : decode cX10_count 13 = .ok (.bipush 8, 2) := by decide +kernel
theorem dX10_count_15 : decode cX10_count 15 = .ok (.iaload, 1) := by decide +kernel
theorem dX10_count_16 : decode cX10_count 16 = .ok (.if_icmp .ge 57, 3) := by decide +kernel
theorem dX10_count_19 : decode cX10_count 19 = .ok (.aload_n 0, 1) := by decide +kernel
theorem dX10_count_20 : decode cX10_count 20 = .ok (.iload 4, 2) := by decide +kernel
theorem dX10_count_22 : decode cX10_count 22 = .ok (.iconst 3, 1) := by decide +kernel
theorem dX10_count_23 : decode cX10_count 23 = .ok (.invokevirtual 29, 3) := by decide +kernel
theorem dX10_count_26 : decode cX10_count 26 = .ok (.ifCond .lt 7, 3) := by decide +kernel
theorem dX10_count_29 : decode cX10_count 29 = .ok (.iconst 1, 1) := by decide +kernel
theorem dX10_count_30 : decode cX10_count 30 = .ok (.goto 4, 3) := by decide +kernel
theorem dX10_count_33 : decode cX10_count 33 = .ok (.iconst 0, 1) := by decide +kernel
theorem dX10_count_34 : decode cX10_count 34 = .ok (.istore 5, 2) := by decide +kernel
theorem dX10_count_36 : decode cX10_count 36 = .ok (.iload_n 2, 1) := by decide +kernel
theorem dX10_count_37 : decode cX10_count 37 = .ok (.iload 5, 2) := by decide +kernel
theorem dX10_count_39 : decode cX10_count 39 = .ok (.ifCond .eq 7, 3) := by decide +kernel
theorem dX10_count_42 : decode cX10_count 42 = .ok (.iconst 1, 1) := by decide +kernel
theorem dX10_count_43 : decode cX10_count 43 = .ok (.goto 4, 3) := by decide +kernel
theorem dX10_count_46 : decode cX10_count 46 = .ok (.iconst 0, 1) := by decide +kernel
theorem dX10_count_47 : decode cX10_count 47 = .ok (.iadd, 1) := by decide +kernel
theorem dX10_count_48 : decode cX10_count 48 = .ok (.istore_n 2, 1) := by decide +kernel
theorem dX10_count_49 : decode cX10_count 49 = .ok (.iload_n 3, 1) := by decide +kernel
theorem dX10_count_50 : decode cX10_count 50 = .ok (.iload 5, 2) := by decide +kernel
theorem dX10_count_52 : decode cX10_count 52 = .ok (.ifCond .eq 12, 3) := by decide +kernel
theorem dX10_count_55 : decode cX10_count 55 = .ok (.aload_n 0, 1) := by decide +kernel
theorem dX10_count_56 : decode cX10_count 56 = .ok (.iload 4, 2) := by decide +kernel
theorem dX10_count_58 : decode cX10_count 58 = .ok (.invokevirtual 51, 3) := by decide +kernel
theorem dX10_count_61 : decode cX10_count 61 = .ok (.goto 4, 3) := by decide +kernel
theorem dX10_count_64 : decode cX10_count 64 = .ok (.iconst 0, 1) := by decide +kernel
theorem dX10_count_65 : decode cX10_count 65 = .ok (.iadd, 1) := by decide +kernel
theorem dX10_count_66 : decode cX10_count 66 = .ok (.istore_n 3, 1) := by decide +kernel
theorem dX10_count_67 : decode cX10_count 67 = .ok (.iinc 4 1, 3) := by decide +kernel
theorem dX10_count_70 : decode cX10_count 70 = .ok (.goto (-63), 3) := by decide +kernel
theorem dX10_count_73 : decode cX10_count 73 = .ok (.iload_n 1, 1) := by decide +kernel
theorem dX10_count_74 : decode cX10_count 74 = .ok (.bipush 20, 2) := by decide +kernel
theorem dX10_count_76 : decode cX10_count 76 = .ok (.bipush 24, 2) := by decide +kernel
theorem dX10_count_78 : decode cX10_count 78 = .ok (.invokestatic 33, 3) := by decide +kernel
theorem dX10_count_81 : decode cX10_count 81 = .ok (.ifCond .eq 12, 3) := by decide +kernel
theorem dX10_count_84 : decode cX10_count 84 = .ok (.aload_n 0, 1) := by decide +kernel
theorem dX10_count_85 : decode cX10_count 85 = .ok (.iload_n 1, 1) := by decide +kernel
theorem dX10_count_86 : decode cX10_count 86 = .ok (.bipush 20, 2) := by decide +kernel
theorem dX10_count_88 : decode cX10_count 88 = .ok (.isub, 1) := by decide +kernel
theorem dX10_count_89 : decode cX10_count 89 = .ok (.invokevirtual 48, 3) := by decide +kernel
theorem dX10_count_92 : decode cX10_count 92 = .ok (.ireturn, 1) := by decide +kernel
theorem dX10_count_93 : decode cX10_count 93 = .ok (.iload_n 1, 1) := by decide +kernel
theorem dX10_count_94 : decode cX10_count 94 = .ok (.iconst 0, 1) := by decide +kernel
theorem dX10_count_95 : decode cX10_count 95 = .ok (.bipush 14, 2) := by decide +kernel
theorem dX10_count_97 : decode cX10_count 97 = .ok (.invokestatic 33, 3) := by decide +kernel
theorem dX10_count_100 : decode cX10_count 100 = .ok (.ifCond .ne 6, 3) := by decide +kernel
theorem dX10_count_103 : decode cX10_count 103 = .ok (.bipush (-2), 2) := by decide +kernel
theorem dX10_count_105 : decode cX10_count 105 = .ok (.ireturn, 1) := by decide +kernel
theorem dX10_count_106 : decode cX10_count 106 = .ok (.iload_n 1, 1) := by decide +kernel
theorem dX10_count_107 : decode cX10_count 107 = .ok (.iconst 3, 1) := by decide +kernel
theorem dX10_count_108 : decode cX10_count 108 = .ok (.if_icmp .ge 27, 3) := by decide +kernel
theorem dX10_count_111 : decode cX10_count 111 = .ok (.iload_n 1, 1) := by decide +kernel
theorem dX10_count_112 : decode cX10_count 112 = .ok (.ifCond .ne 12, 3) := by decide +kernel
theorem dX10_count_115 : decode cX10_count 115 = .ok (.aload_n 0, 1) := by decide +kernel
theorem dX10_count_116 : decode cX10_count 116 = .ok (.getfield 7, 3) := by decide +kernel
theorem dX10_count_119 : decode cX10_count 119 = .ok (.iconst 0, 1) := by decide +kernel
theorem dX10_count_120 : decode cX10_count 120 = .ok (.iaload, 1) := by decide +kernel
theorem dX10_count_121 : decode cX10_count 121 = .ok (.goto 13, 3) := by decide +kernel
theorem dX10_count_124 : decode cX10_count 124 = .ok (.iload_n 1, 1) := by decide +kernel
theorem dX10_count_125 : decode cX10_count 125 = .ok (.iconst 1, 1) := by decide +kernel
theorem dX10_count_126 : decode cX10_count 126 = .ok (.if_icmp .ne 7, 3) := by decide +kernel
theorem dX10_count_129 : decode cX10_count 129 = .ok (.iload_n 2, 1) := by decide +kernel
theorem dX10_count_130 : decode cX10_count 130 = .ok (.goto 4, 3) := by decide +kernel
theorem dX10_count_133 : decode cX10_count 133 = .ok (.iload_n 3, 1) := by decide +kernel
theorem dX10_count_134 : decode cX10_count 134 = .ok (.ireturn, 1) := by decide +kernel
theorem dX10_count_135 : decode cX10_count 135 = .ok (.iload_n 1, 1) := by decide +kernel
theorem dX10_count_136 : decode cX10_count 136 = .ok (.bipush 10, 2) := by decide +kernel
theorem dX10_count_138 : decode cX10_count 138 = .ok (.if_icmp .ge 12, 3) := by decide +kernel
theorem dX10_count_141 : decode cX10_count 141 = .ok (.aload_n 0, 1) := by decide +kernel
theorem dX10_count_142 : decode cX10_count 142 = .ok (.getfield 7, 3) := by decide +kernel
theorem dX10_count_145 : decode cX10_count 145 = .ok (.iload_n 1, 1) := by decide +kernel
theorem dX10_count_146 : decode cX10_count 146 = .ok (.iconst 2, 1) := by decide +kernel
theorem dX10_count_147 : decode cX10_count 147 = .ok (.isub, 1) := by decide +kernel
theorem dX10_count_148 : decode cX10_count 148 = .ok (.iaload, 1) := by decide +kernel
theorem dX10_count_149 : decode cX10_count 149 = .ok (.ireturn, 1) := by decide +kernel
theorem dX10_count_150 : decode cX10_count 150 = .ok (.iload_n 1, 1) := by decide +kernel
theorem dX10_count_151 : decode cX10_count 151 = .ok (.bipush 10, 2) := by decide +kernel
theorem dX10_count_153 : decode cX10_count 153 = .ok (.if_icmp .ne 10, 3) := by decide +kernel
theorem dX10_count_156 : decode cX10_count 156 = .ok (.aload_n 0, 1) := by decide +kernel
theorem dX10_count_157 : decode cX10_count 157 = .ok (.invokevirtual 133, 3) := by decide +kernel
theorem dX10_count_160 : decode cX10_count 160 = .ok (.goto 49, 3) := by decide +kernel
theorem dX10_count_163 : decode cX10_count 163 = .ok (.iload_n 1, 1) := by decide +kernel
theorem dX10_count_164 : decode cX10_count 164 = .ok (.bipush 11, 2) := by decide +kernel
theorem dX10_count_166 : decode cX10_count 166 = .ok (.if_icmp .ne 10, 3) := by decide +kernel
theorem dX10_count_169 : decode cX10_count 169 = .ok (.aload_n 0, 1) := by decide +kernel
theorem dX10_count_170 : decode cX10_count 170 = .ok (.invokevirtual 140, 3) := by decide +kernel
theorem dX10_count_173 : decode cX10_count 173 = .ok (.goto 36, 3) := by decide +kernel
theorem dX10_count_176 : decode cX10_count 176 = .ok (.iload_n 1, 1) := by decide +kernel
theorem dX10_count_177 : decode cX10_count 177 = .ok (.bipush 12, 2) := by decide +kernel
theorem dX10_count_179 : decode cX10_count 179 = .ok (.if_icmp .ne 13, 3) := by decide +kernel
theorem dX10_count_182 : decode cX10_count 182 = .ok (.aload_n 0, 1) := by decide +kernel
theorem dX10_count_183 : decode cX10_count 183 = .ok (.getfield 7, 3) := by decide +kernel
theorem dX10_count_186 : decode cX10_count 186 = .ok (.bipush 8, 2) := by decide +kernel
theorem dX10_count_188 : decode cX10_count 188 = .ok (.iaload, 1) := by decide +kernel
theorem dX10_count_189 : decode cX10_count 189 = .ok (.goto 20, 3) := by decide +kernel
theorem dX10_count_192 : decode cX10_count 192 = .ok (.iload_n 1, 1) := by decide +kernel
theorem dX10_count_193 : decode cX10_count 193 = .ok (.bipush 13, 2) := by decide +kernel
theorem dX10_count_195 : decode cX10_count 195 = .ok (.if_icmp .ne 10, 3) := by decide +kernel
theorem dX10_count_198 : decode cX10_count 198 = .ok (.aload_n 0, 1) := by decide +kernel
theorem dX10_count_199 : decode cX10_count 199 = .ok (.getfield 25, 3) := by decide +kernel
theorem dX10_count_202 : decode cX10_count 202 = .ok (.goto 7, 3) := by decide +kernel
theorem dX10_count_205 : decode cX10_count 205 = .ok (.aload_n 0, 1) := by decide +kernel
theorem dX10_count_206 : decode cX10_count 206 = .ok (.getfield 149, 3) := by decide +kernel
theorem dX10_count_209 : decode cX10_count 209 = .ok (.ireturn, 1) := by decide +kernel
