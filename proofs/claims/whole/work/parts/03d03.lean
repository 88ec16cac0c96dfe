theorem dX10_isLate_8 : decode cX10_isLate 8 = .ok (.aload_n 0, 1) := by decide +kernel
theorem dX10_isLate_9 : decode cX10_isLate 9 = .ok (.iload_n 1, 1) := by decide +kernel
theorem dX10_isLate_10 : decode cX10_isLate 10 = .ok (.iconst 3, 1) := by decide +kernel
theorem dX10_isLate_11 : decode cX10_isLate 11 = .ok (.invokevirtual 61, 3) := by decide +kernel
theorem dX10_isLate_14 : decode cX10_isLate 14 = .ok (.aload_n 0, 1) := by decide +kernel
theorem dX10_isLate_15 : decode cX10_isLate 15 = .ok (.getfield 7, 3) := by decide +kernel
theorem dX10_isLate_18 : decode cX10_isLate 18 = .ok (.iconst 0, 1) := by decide +kernel
theorem dX10_isLate_19 : decode cX10_isLate 19 = .ok (.iaload, 1) := by decide +kernel
theorem dX10_isLate_20 : decode cX10_isLate 20 = .ok (.if_icmp .ge 7, 3) := by decide +kernel
theorem dX10_isLate_23 : decode cX10_isLate 23 = .ok (.iconst 1, 1) := by decide +kernel
theorem dX10_isLate_24 : decode cX10_isLate 24 = .ok (.goto 38, 3) := by decide +kernel
theorem dX10_isLate_27 : decode cX10_isLate 27 = .ok (.iconst 0, 1) := by decide +kernel
theorem dX10_isLate_28 : decode cX10_isLate 28 = .ok (.goto 34, 3) := by decide +kernel
theorem dX10_isLate_31 : decode cX10_isLate 31 = .ok (.aload_n 0, 1) := by decide +kernel
theorem dX10_isLate_32 : decode cX10_isLate 32 = .ok (.iload_n 1, 1) := by decide +kernel
theorem dX10_isLate_33 : decode cX10_isLate 33 = .ok (.iconst 4, 1) := by decide +kernel
theorem dX10_isLate_34 : decode cX10_isLate 34 = .ok (.invokevirtual 61, 3) := by decide +kernel
theorem dX10_isLate_37 : decode cX10_isLate 37 = .ok (.iconst 1, 1) := by decide +kernel
theorem dX10_isLate_38 : decode cX10_isLate 38 = .ok (.if_icmp .ne 23, 3) := by decide +kernel
theorem dX10_isLate_41 : decode cX10_isLate 41 = .ok (.aload_n 0, 1) := by decide +kernel
theorem dX10_isLate_42 : decode cX10_isLate 42 = .ok (.iload_n 1, 1) := by decide +kernel
theorem dX10_isLate_43 : decode cX10_isLate 43 = .ok (.bipush 6, 2) := by decide +kernel
theorem dX10_isLate_45 : decode cX10_isLate 45 = .ok (.invokevirtual 61, 3) := by decide +kernel
theorem dX10_isLate_48 : decode cX10_isLate 48 = .ok (.aload_n 0, 1) := by decide +kernel
theorem dX10_isLate_49 : decode cX10_isLate 49 = .ok (.iload_n 1, 1) := by decide +kernel
theorem dX10_isLate_50 : decode cX10_isLate 50 = .ok (.iconst 3, 1) := by decide +kernel
theorem dX10_isLate_51 : decode cX10_isLate 51 = .ok (.invokevirtual 61, 3) := by decide +kernel
theorem dX10_isLate_54 : decode cX10_isLate 54 = .ok (.if_icmp .le 7, 3) := by decide +kernel
theorem dX10_isLate_57 : decode cX10_isLate 57 = .ok (.iconst 1, 1) := by decide +kernel
theorem dX10_isLate_58 : decode cX10_isLate 58 = .ok (.goto 4, 3) := by decide +kernel
theorem dX10_isLate_61 : decode cX10_isLate 61 = .ok (.iconst 0, 1) := by decide +kernel
theorem dX10_isLate_62 : decode cX10_isLate 62 = .ok (.ireturn, 1) := by decide +kernel
theorem dX10_lies_0 : decode cX10_lies 0 = .ok (.aload_n 0, 1) := by decide +kernel
theorem dX10_lies_1 : decode cX10_lies 1 = .ok (.iload_n 1, 1) := by decide +kernel
theorem dX10_lies_2 : decode cX10_lies 2 = .ok (.iconst 1, 1) := by decide +kernel
theorem dX10_lies_3 : decode cX10_lies 3 = .ok (.invokevirtual 61, 3) := by decide +kernel
theorem dX10_lies_6 : decode cX10_lies 6 = .ok (.istore_n 3, 1) := by decide +kernel
theorem dX10_lies_7 : decode cX10_lies 7 = .ok (.aload_n 0, 1) := by decide +kernel
theorem dX10_lies_8 : decode cX10_lies 8 = .ok (.iload_n 1, 1) := by decide +kernel
theorem dX10_lies_9 : decode cX10_lies 9 = .ok (.iconst 2, 1) := by decide +kernel
theorem dX10_lies_10 : decode cX10_lies 10 = .ok (.invokevirtual 61, 3) := by decide +kernel
theorem dX10_lies_13 : decode cX10_lies 13 = .ok (.istore 4, 2) := by decide +kernel
theorem dX10_lies_15 : decode cX10_lies 15 = .ok (.aload_n 0, 1) := by decide +kernel
theorem dX10_lies_16 : decode cX10_lies 16 = .ok (.iload_n 2, 1) := by decide +kernel
theorem dX10_lies_17 : decode cX10_lies 17 = .ok (.iconst 1, 1) := by decide +kernel
theorem dX10_lies_18 : decode cX10_lies 18 = .ok (.invokevirtual 29, 3) := by decide +kernel
theorem dX10_lies_21 : decode cX10_lies 21 = .ok (.istore 5, 2) := by decide +kernel
theorem dX10_lies_23 : decode cX10_lies 23 = .ok (.aload_n 0, 1) := by decide +kernel
theorem dX10_lies_24 : decode cX10_lies 24 = .ok (.iload_n 2, 1) := by decide +kernel
theorem dX10_lies_25 : decode cX10_lies 25 = .ok (.iconst 2, 1) := by decide +kernel
theorem dX10_lies_26 : decode cX10_lies 26 = .ok (.invokevirtual 29, 3) := by decide +kernel
theorem dX10_lies_29 : decode cX10_lies 29 = .ok (.istore 6, 2) := by decide +kernel
theorem dX10_lies_31 : decode cX10_lies 31 = .ok (.aload_n 0, 1) := by decide +kernel
theorem dX10_lies_32 : decode cX10_lies 32 = .ok (.iload_n 1, 1) := by decide +kernel
theorem dX10_lies_33 : decode cX10_lies 33 = .ok (.iconst 0, 1) := by decide +kernel
theorem dX10_lies_34 : decode cX10_lies 34 = .ok (.invokevirtual 61, 3) := by decide +kernel
theorem dX10_lies_37 : decode cX10_lies 37 = .ok (.aload_n 0, 1) := by decide +kernel
theorem dX10_lies_38 : decode cX10_lies 38 = .ok (.iload_n 2, 1) := by decide +kernel
theorem dX10_lies_39 : decode cX10_lies 39 = .ok (.iconst 0, 1) := by decide +kernel
theorem dX10_lies_40 : decode cX10_lies 40 = .ok (.invokevirtual 29, 3) := by decide +kernel
theorem dX10_lies_43 : decode cX10_lies 43 = .ok (.if_icmp .eq 5, 3) := by decide +kernel
theorem dX10_lies_46 : decode cX10_lies 46 = .ok (.iconst (-1), 1) := by decide +kernel
theorem dX10_lies_47 : decode cX10_lies 47 = .ok (.ireturn, 1) := by decide +kernel
theorem dX10_lies_48 : decode cX10_lies 48 = .ok (.iload_n 3, 1) := by decide +kernel
theorem dX10_lies_49 : decode cX10_lies 49 = .ok (.iload 5, 2) := by decide +kernel
theorem dX10_lies_51 : decode cX10_lies 51 = .ok (.if_icmp .gt 12, 3) := by decide +kernel
theorem dX10_lies_54 : decode cX10_lies 54 = .ok (.iload 4, 2) := by decide +kernel
theorem dX10_lies_56 : decode cX10_lies 56 = .ok (.iload 6, 2) := by decide +kernel
theorem dX10_lies_58 : decode cX10_lies 58 = .ok (.if_icmp .gt 5, 3) := by decide +kernel
theorem dX10_lies_61 : decode cX10_lies 61 = .ok (.iconst 0, 1) := by decide +kernel
theorem dX10_lies_62 : decode cX10_lies 62 = .ok (.ireturn, 1) := by decide +kernel
theorem dX10_lies_63 : decode cX10_lies 63 = .ok (.aload_n 0, 1) := by decide +kernel
theorem dX10_lies_64 : decode cX10_lies 64 = .ok (.iconst 4, 1) := by decide +kernel
theorem dX10_lies_65 : decode cX10_lies 65 = .ok (.invokevirtual 48, 3) := by decide +kernel
theorem dX10_lies_68 : decode cX10_lies 68 = .ok (.iconst 1, 1) := by decide +kernel
theorem dX10_lies_69 : decode cX10_lies 69 = .ok (.if_icmp .ne 20, 3) := by decide +kernel
theorem dX10_lies_72 : decode cX10_lies 72 = .ok (.iload 4, 2) := by decide +kernel
theorem dX10_lies_74 : decode cX10_lies 74 = .ok (.iload 5, 2) := by decide +kernel
theorem dX10_lies_76 : decode cX10_lies 76 = .ok (.if_icmp .gt 13, 3) := by decide +kernel
theorem dX10_lies_79 : decode cX10_lies 79 = .ok (.iload_n 3, 1) := by decide +kernel
theorem dX10_lies_80 : decode cX10_lies 80 = .ok (.iload 6, 2) := by decide +kernel
theorem dX10_lies_82 : decode cX10_lies 82 = .ok (.if_icmp .gt 7, 3) := by decide +kernel
theorem dX10_lies_85 : decode cX10_lies 85 = .ok (.iconst 1, 1) := by decide +kernel
theorem dX10_lies_86 : decode cX10_lies 86 = .ok (.goto 4, 3) := by decide +kernel
theorem dX10_lies_89 : decode cX10_lies 89 = .ok (.iconst (-1), 1) := by decide +kernel
theorem dX10_lies_90 : decode cX10_lies 90 = .ok (.ireturn, 1) := by decide +kernel
theorem dX10_piece_0 : decode cX10_piece 0 = .ok (.aload_n 0, 1) := by decide +kernel
theorem dX10_piece_1 : decode cX10_piece 1 = .ok (.iload_n 1, 1) := by decide +kernel
theorem dX10_piece_2 : decode cX10_piece 2 = .ok (.iload_n 2, 1) := by decide +kernel
theorem dX10_piece_3 : decode cX10_piece 3 = .ok (.invokevirtual 67, 3) := by decide +kernel
theorem dX10_piece_6 : decode cX10_piece 6 = .ok (.iconst 1, 1) := by decide +kernel
theorem dX10_piece_7 : decode cX10_piece 7 = .ok (.if_icmp .ne 7, 3) := by decide +kernel
theorem dX10_piece_10 : decode cX10_piece 10 = .ok (.iconst 1, 1) := by decide +kernel
theorem dX10_piece_11 : decode cX10_piece 11 = .ok (.goto 4, 3) := by decide +kernel
theorem dX10_piece_14 : decode cX10_piece 14 = .ok (.iconst 0, 1) := by decide +kernel
theorem dX10_piece_15 : decode cX10_piece 15 = .ok (.istore 5, 2) := by decide +kernel
theorem dX10_piece_17 : decode cX10_piece 17 = .ok (.aload_n 0, 1) := by decide +kernel
theorem dX10_piece_18 : decode cX10_piece 18 = .ok (.iload_n 1, 1) := by decide +kernel
theorem dX10_piece_19 : decode cX10_piece 19 = .ok (.iload 5, 2) := by decide +kernel
theorem dX10_piece_21 : decode cX10_piece 21 = .ok (.ifCond .eq 7, 3) := by decide +kernel
theorem dX10_piece_24 : decode cX10_piece 24 = .ok (.iconst 2, 1) := by decide +kernel
theorem dX10_piece_25 : decode cX10_piece 25 = .ok (.goto 4, 3) := by decide +kernel
theorem dX10_piece_28 : decode cX10_piece 28 = .ok (.iconst 1, 1) := by decide +kernel
theorem dX10_piece_29 : decode cX10_piece 29 = .ok (.invokevirtual 61, 3) := by decide +kernel
theorem dX10_piece_32 : decode cX10_piece 32 = .ok (.istore 6, 2) := by decide +kernel
theorem dX10_piece_34 : decode cX10_piece 34 = .ok (.aload_n 0, 1) := by decide +kernel
theorem dX10_piece_35 : decode cX10_piece 35 = .ok (.iload_n 1, 1) := by decide +kernel
theorem dX10_piece_36 : decode cX10_piece 36 = .ok (.iload 5, 2) := by decide +kernel
theorem dX10_piece_38 : decode cX10_piece 38 = .ok (.ifCond .eq 7, 3) := by decide +kernel
theorem dX10_piece_41 : decode cX10_piece 41 = .ok (.iconst 1, 1) := by decide +kernel
theorem dX10_piece_42 : decode cX10_piece 42 = .ok (.goto 4, 3) := by decide +kernel
theorem dX10_piece_45 : decode cX10_piece 45 = .ok (.iconst 2, 1) := by decide +kernel
theorem dX10_piece_46 : decode cX10_piece 46 = .ok (.invokevirtual 61, 3) := by decide +kernel
theorem dX10_piece_49 : decode cX10_piece 49 = .ok (.istore 7, 2) := by decide +kernel
theorem dX10_piece_51 : decode cX10_piece 51 = .ok (.aload_n 0, 1) := by decide +kernel
theorem dX10_piece_52 : decode cX10_piece 52 = .ok (.iload_n 2, 1) := by decide +kernel
theorem dX10_piece_53 : decode cX10_piece 53 = .ok (.iconst 1, 1) := by decide +kernel
theorem dX10_piece_54 : decode cX10_piece 54 = .ok (.invokevirtual 29, 3) := by decide +kernel
theorem dX10_piece_57 : decode cX10_piece 57 = .ok (.istore 8, 2) := by decide +kernel
theorem dX10_piece_59 : decode cX10_piece 59 = .ok (.aload_n 0, 1) := by decide +kernel
theorem dX10_piece_60 : decode cX10_piece 60 = .ok (.iload_n 2, 1) := by decide +kernel
theorem dX10_piece_61 : decode cX10_piece 61 = .ok (.iconst 2, 1) := by decide +kernel
theorem dX10_piece_62 : decode cX10_piece 62 = .ok (.invokevirtual 29, 3) := by decide +kernel
theorem dX10_piece_65 : decode cX10_piece 65 = .ok (.istore 9, 2) := by decide +kernel
theorem dX10_piece_67 : decode cX10_piece 67 = .ok (.aload_n 0, 1) := by decide +kernel
theorem dX10_piece_68 : decode cX10_piece 68 = .ok (.iconst 2, 1) := by decide +kernel
theorem dX10_piece_69 : decode cX10_piece 69 = .ok (.invokevirtual 48, 3) := by decide +kernel
theorem dX10_piece_72 : decode cX10_piece 72 = .ok (.iconst 1, 1) := by decide +kernel
theorem dX10_piece_73 : decode cX10_piece 73 = .ok (.if_icmp .ne 7, 3) := by decide +kernel
theorem dX10_piece_76 : decode cX10_piece 76 = .ok (.iconst 1, 1) := by decide +kernel
theorem dX10_piece_77 : decode cX10_piece 77 = .ok (.goto 4, 3) := by decide +kernel
theorem dX10_piece_80 : decode cX10_piece 80 = .ok (.iconst 0, 1) := by decide +kernel
theorem dX10_piece_81 : decode cX10_piece 81 = .ok (.istore 10, 2) := by decide +kernel
theorem dX10_piece_83 : decode cX10_piece 83 = .ok (.iload_n 3, 1) := by decide +kernel
theorem dX10_piece_84 : decode cX10_piece 84 = .ok (.ifCond .ne 35, 3) := by decide +kernel
theorem dX10_piece_87 : decode cX10_piece 87 = .ok (.iload 4, 2) := by decide +kernel
theorem dX10_piece_89 : decode cX10_piece 89 = .ok (.ifCond .ne 17, 3) := by decide +kernel
theorem dX10_piece_92 : decode cX10_piece 92 = .ok (.iload 8, 2) := by decide +kernel
theorem dX10_piece_94 : decode cX10_piece 94 = .ok (.iload 6, 2) := by decide +kernel
theorem dX10_piece_96 : decode cX10_piece 96 = .ok (.isub, 1) := by decide +kernel
theorem dX10_piece_97 : decode cX10_piece 97 = .ok (.aload_n 0, 1) := by decide +kernel
theorem dX10_piece_98 : decode cX10_piece 98 = .ok (.iconst 0, 1) := by decide +kernel
theorem dX10_piece_99 : decode cX10_piece 99 = .ok (.invokevirtual 48, 3) := by decide +kernel
theorem dX10_piece_102 : decode cX10_piece 102 = .ok (.isub, 1) := by decide +kernel
theorem dX10_piece_103 : decode cX10_piece 103 = .ok (.goto 15, 3) := by decide +kernel
theorem dX10_piece_106 : decode cX10_piece 106 = .ok (.iload 10, 2) := by decide +kernel
theorem dX10_piece_108 : decode cX10_piece 108 = .ok (.ifCond .eq 8, 3) := by decide +kernel
theorem dX10_piece_111 : decode cX10_piece 111 = .ok (.iload 9, 2) := by decide +kernel
theorem dX10_piece_113 : decode cX10_piece 113 = .ok (.goto 5, 3) := by decide +kernel
theorem dX10_piece_116 : decode cX10_piece 116 = .ok (.iload 7, 2) := by decide +kernel
theorem dX10_piece_118 : decode cX10_piece 118 = .ok (.ireturn, 1) := by decide +kernel
theorem dX10_piece_119 : decode cX10_piece 119 = .ok (.iload 4, 2) := by decide +kernel
theorem dX10_piece_121 : decode cX10_piece 121 = .ok (.ifCond .ne 18, 3) := by decide +kernel
theorem dX10_piece_124 : decode cX10_piece 124 = .ok (.iload 10, 2) := by decide +kernel
theorem dX10_piece_126 : decode cX10_piece 126 = .ok (.ifCond .eq 8, 3) := by decide +kernel
theorem dX10_piece_129 : decode cX10_piece 129 = .ok (.iload 6, 2) := by decide +kernel
theorem dX10_piece_131 : decode cX10_piece 131 = .ok (.goto 19, 3) := by decide +kernel
theorem dX10_piece_134 : decode cX10_piece 134 = .ok (.iload 8, 2) := by decide +kernel
theorem dX10_piece_136 : decode cX10_piece 136 = .ok (.goto 14, 3) := by decide +kernel
theorem dX10_piece_139 : decode cX10_piece 139 = .ok (.iload 9, 2) := by decide +kernel
theorem dX10_piece_141 : decode cX10_piece 141 = .ok (.iload 7, 2) := by decide +kernel
theorem dX10_piece_143 : decode cX10_piece 143 = .ok (.isub, 1) := by decide +kernel
theorem dX10_piece_144 : decode cX10_piece 144 = .ok (.aload_n 0, 1) := by decide +kernel
theorem dX10_piece_145 : decode cX10_piece 145 = .ok (.iconst 0, 1) := by decide +kernel
theorem dX10_piece_146 : decode cX10_piece 146 = .ok (.invokevirtual 48, 3) := by decide +kernel
theorem dX10_piece_149 : decode cX10_piece 149 = .ok (.isub, 1) := by decide +kernel
theorem dX10_piece_150 : decode cX10_piece 150 = .ok (.ireturn, 1) := by decide +kernel
theorem dX10_pieceArea_0 : decode cX10_pieceArea 0 = .ok (.aload_n 0, 1) := by decide +kernel
theorem dX10_pieceArea_1 : decode cX10_pieceArea 1 = .ok (.iload_n 1, 1) := by decide +kernel
theorem dX10_pieceArea_2 : decode cX10_pieceArea 2 = .ok (.iload_n 2, 1) := by decide +kernel
theorem dX10_pieceArea_3 : decode cX10_pieceArea 3 = .ok (.iload_n 3, 1) := by decide +kernel
theorem dX10_pieceArea_4 : decode cX10_pieceArea 4 = .ok (.iconst 0, 1) := by decide +kernel
theorem dX10_pieceArea_5 : decode cX10_pieceArea 5 = .ok (.invokevirtual 70, 3) := by decide +kernel
theorem dX10_pieceArea_8 : decode cX10_pieceArea 8 = .ok (.istore 4, 2) := by decide +kernel
theorem dX10_pieceArea_10 : decode cX10_pieceArea 10 = .ok (.aload_n 0, 1) := by decide +kernel
theorem dX10_pieceArea_11 : decode cX10_pieceArea 11 = .ok (.iload_n 1, 1) := by decide +kernel
theorem dX10_pieceArea_12 : decode cX10_pieceArea 12 = .ok (.iload_n 2, 1) := by decide +kernel
theorem dX10_pieceArea_13 : decode cX10_pieceArea 13 = .ok (.iload_n 3, 1) := by decide +kernel
theorem dX10_pieceArea_14 : decode cX10_pieceArea 14 = .ok (.iconst 1, 1) := by decide +kernel
theorem dX10_pieceArea_15 : decode cX10_pieceArea 15 = .ok (.invokevirtual 70, 3) := by decide +kernel
theorem dX10_pieceArea_18 : decode cX10_pieceArea 18 = .ok (.istore 5, 2) := by decide +kernel
theorem dX10_pieceArea_20 : decode cX10_pieceArea 20 = .ok (.iload 4, 2) := by decide +kernel
theorem dX10_pieceArea_22 : decode cX10_pieceArea 22 = .ok (.ifCond .le 16, 3) := by decide +kernel
theorem dX10_pieceArea_25 : decode cX10_pieceArea 25 = .ok (.iload 5, 2) := by decide +kernel
theorem dX10_pieceArea_27 : decode cX10_pieceArea 27 = .ok (.ifCond .le 11, 3) := by decide +kernel
theorem dX10_pieceArea_30 : decode cX10_pieceArea 30 = .ok (.iload 4, 2) := by decide +kernel
theorem dX10_pieceArea_32 : decode cX10_pieceArea 32 = .ok (.iload 5, 2) := by decide +kernel
theorem dX10_pieceArea_34 : decode cX10_pieceArea 34 = .ok (.imul, 1) := by decide +kernel
theorem dX10_pieceArea_35 : decode cX10_pieceArea 35 = .ok (.goto 4, 3) := by decide +kernel
theorem dX10_pieceArea_38 : decode cX10_pieceArea 38 = .ok (.iconst 0, 1) := by decide +kernel
theorem dX10_pieceArea_39 : decode cX10_pieceArea 39 = .ok (.ireturn, 1) := by decide +kernel
theorem dX10_keeps_0 : decode cX10_keeps 0 = .ok (.aload_n 0, 1) := by decide +kernel
theorem dX10_keeps_1 : decode cX10_keeps 1 = .ok (.iload_n 1, 1) := by decide +kernel
theorem dX10_keeps_2 : decode cX10_keeps 2 = .ok (.iload_n 2, 1) := by decide +kernel
theorem dX10_keeps_3 : decode cX10_keeps 3 = .ok (.iload_n 3, 1) := by decide +kernel
theorem dX10_keeps_4 : decode cX10_keeps 4 = .ok (.iconst 0, 1) := by decide +kernel
theorem dX10_keeps_5 : decode cX10_keeps 5 = .ok (.invokevirtual 70, 3) := by decide +kernel
theorem dX10_keeps_8 : decode cX10_keeps 8 = .ok (.aload_n 0, 1) := by decide +kernel
theorem dX10_keeps_9 : decode cX10_keeps 9 = .ok (.iconst 1, 1) := by decide +kernel
theorem dX10_keeps_10 : decode cX10_keeps 10 = .ok (.invokevirtual 48, 3) := by decide +kernel
theorem dX10_keeps_13 : decode cX10_keeps 13 = .ok (.if_icmp .lt 23, 3) := by decide +kernel
theorem dX10_keeps_16 : decode cX10_keeps 16 = .ok (.aload_n 0, 1) := by decide +kernel
theorem dX10_keeps_17 : decode cX10_keeps 17 = .ok (.iload_n 1, 1) := by decide +kernel
theorem dX10_keeps_18 : decode cX10_keeps 18 = .ok (.iload_n 2, 1) := by decide +kernel
theorem dX10_keeps_19 : decode cX10_keeps 19 = .ok (.iload_n 3, 1) := by decide +kernel
theorem dX10_keeps_20 : decode cX10_keeps 20 = .ok (.iconst 1, 1) := by decide +kernel
theorem dX10_keeps_21 : decode cX10_keeps 21 = .ok (.invokevirtual 70, 3) := by decide +kernel
theorem dX10_keeps_24 : decode cX10_keeps 24 = .ok (.aload_n 0, 1) := by decide +kernel
theorem dX10_keeps_25 : decode cX10_keeps 25 = .ok (.iconst 1, 1) := by decide +kernel
theorem dX10_keeps_26 : decode cX10_keeps 26 = .ok (.invokevirtual 48, 3) := by decide +kernel
theorem dX10_keeps_29 : decode cX10_keeps 29 = .ok (.if_icmp .lt 7, 3) := by decide +kernel
theorem dX10_keeps_32 : decode cX10_keeps 32 = .ok (.iconst 1, 1) := by decide +kernel
theorem dX10_keeps_33 : decode cX10_keeps 33 = .ok (.goto 4, 3) := by decide +kernel
theorem dX10_keeps_36 : decode cX10_keeps 36 = .ok (.iconst 0, 1) := by decide +kernel
theorem dX10_keeps_37 : decode cX10_keeps 37 = .ok (.ireturn, 1) := by decide +kernel
theorem dX10_keptArea_0 : decode cX10_keptArea 0 = .ok (.aload_n 0, 1) := by decide +kernel
theorem dX10_keptArea_1 : decode cX10_keptArea 1 = .ok (.iload_n 1, 1) := by decide +kernel
theorem dX10_keptArea_2 : decode cX10_keptArea 2 = .ok (.iload_n 2, 1) := by decide +kernel
theorem dX10_keptArea_3 : decode cX10_keptArea 3 = .ok (.iconst 0, 1) := by decide +kernel
theorem dX10_keptArea_4 : decode cX10_keptArea 4 = .ok (.invokevirtual 74, 3) := by decide +kernel
theorem dX10_keptArea_7 : decode cX10_keptArea 7 = .ok (.ifCond .eq 13, 3) := by decide +kernel
theorem dX10_keptArea_10 : decode cX10_keptArea 10 = .ok (.aload_n 0, 1) := by decide +kernel
theorem dX10_keptArea_11 : decode cX10_keptArea 11 = .ok (.iload_n 1, 1) := by decide +kernel
theorem dX10_keptArea_12 : decode cX10_keptArea 12 = .ok (.iload_n 2, 1) := by decide +kernel
theorem dX10_keptArea_13 : decode cX10_keptArea 13 = .ok (.iconst 0, 1) := by decide +kernel
theorem dX10_keptArea_14 : decode cX10_keptArea 14 = .ok (.invokevirtual 77, 3) := by decide +kernel
theorem dX10_keptArea_17 : decode cX10_keptArea 17 = .ok (.goto 4, 3) := by decide +kernel
theorem dX10_keptArea_20 : decode cX10_keptArea 20 = .ok (.iconst 0, 1) := by decide +kernel
theorem dX10_keptArea_21 : decode cX10_keptArea 21 = .ok (.aload_n 0, 1) := by decide +kernel
theorem dX10_keptArea_22 : decode cX10_keptArea 22 = .ok (.iload_n 1, 1) := by decide +kernel
theorem dX10_keptArea_23 : decode cX10_keptArea 23 = .ok (.iload_n 2, 1) := by decide +kernel
theorem dX10_keptArea_24 : decode cX10_keptArea 24 = .ok (.iconst 1, 1) := by decide +kernel
theorem dX10_keptArea_25 : decode cX10_keptArea 25 = .ok (.invokevirtual 74, 3) := by decide +kernel
theorem dX10_keptArea_28 : decode cX10_keptArea 28 = .ok (.ifCond .eq 13, 3) := by decide +kernel
theorem dX10_keptArea_31 : decode cX10_keptArea 31 = .ok (.aload_n 0, 1) := by decide +kernel
theorem dX10_keptArea_32 : decode cX10_keptArea 32 = .ok (.iload_n 1, 1) := by decide +kernel
theorem dX10_keptArea_33 : decode cX10_keptArea 33 = .ok (.iload_n 2, 1) := by decide +kernel
theorem dX10_keptArea_34 : decode cX10_keptArea 34 = .ok (.iconst 1, 1) := by decide +kernel
theorem dX10_keptArea_35 : decode cX10_keptArea 35 = .ok (.invokevirtual 77, 3) := by decide +kernel
theorem dX10_keptArea_38 : decode cX10_keptArea 38 = .ok (.goto 4, 3) := by decide +kernel
theorem dX10_keptArea_41 : decode cX10_keptArea 41 = .ok (.iconst 0, 1) := by decide +kernel
theorem dX10_keptArea_42 : decode cX10_keptArea 42 = .ok (.iadd, 1) := by decide +kernel
theorem dX10_keptArea_43 : decode cX10_keptArea 43 = .ok (.ireturn, 1) := by decide +kernel
theorem dX10_scrapArea_0 : decode cX10_scrapArea 0 = .ok (.aload_n 0, 1) := by decide +kernel
theorem dX10_scrapArea_1 : decode cX10_scrapArea 1 = .ok (.iload_n 1, 1) := by decide +kernel
theorem dX10_scrapArea_2 : decode cX10_scrapArea 2 = .ok (.iload_n 2, 1) := by decide +kernel
theorem dX10_scrapArea_3 : decode cX10_scrapArea 3 = .ok (.iconst 0, 1) := by decide +kernel
theorem dX10_scrapArea_4 : decode cX10_scrapArea 4 = .ok (.invokevirtual 77, 3) := by decide +kernel
theorem dX10_scrapArea_7 : decode cX10_scrapArea 7 = .ok (.aload_n 0, 1) := by decide +kernel
theorem dX10_scrapArea_8 : decode cX10_scrapArea 8 = .ok (.iload_n 1, 1) := by decide +kernel
theorem dX10_scrapArea_9 : decode cX10_scrapArea 9 = .ok (.iload_n 2, 1) := by decide +kernel
theorem dX10_scrapArea_10 : decode cX10_scrapArea 10 = .ok (.iconst 1, 1) := by decide +kernel
theorem dX10_scrapArea_11 : decode cX10_scrapArea 11 = .ok (.invokevirtual 77, 3) := by decide +kernel
theorem dX10_scrapArea_14 : decode cX10_scrapArea 14 = .ok (.iadd, 1) := by decide +kernel
theorem dX10_scrapArea_15 : decode cX10_scrapArea 15 = .ok (.aload_n 0, 1) := by decide +kernel
theorem dX10_scrapArea_16 : decode cX10_scrapArea 16 = .ok (.iload_n 1, 1) := by decide +kernel
theorem dX10_scrapArea_17 : decode cX10_scrapArea 17 = .ok (.iload_n 2, 1) := by decide +kernel
theorem dX10_scrapArea_18 : decode cX10_scrapArea 18 = .ok (.invokevirtual 81, 3) := by decide +kernel
theorem dX10_scrapArea_21 : decode cX10_scrapArea 21 = .ok (.isub, 1) := by decide +kernel
theorem dX10_scrapArea_22 : decode cX10_scrapArea 22 = .ok (.ireturn, 1) := by decide +kernel
theorem dX10_cuts_0 : decode cX10_cuts 0 = .ok (.aload_n 0, 1) := by decide +kernel
theorem dX10_cuts_1 : decode cX10_cuts 1 = .ok (.iload_n 2, 1) := by decide +kernel
theorem dX10_cuts_2 : decode cX10_cuts 2 = .ok (.iconst 3, 1) := by decide +kernel
theorem dX10_cuts_3 : decode cX10_cuts 3 = .ok (.invokevirtual 29, 3) := by decide +kernel
theorem dX10_cuts_6 : decode cX10_cuts 6 = .ok (.istore_n 3, 1) := by decide +kernel
theorem dX10_cuts_7 : decode cX10_cuts 7 = .ok (.aload_n 0, 1) := by decide +kernel
theorem dX10_cuts_8 : decode cX10_cuts 8 = .ok (.iload_n 2, 1) := by decide +kernel
theorem dX10_cuts_9 : decode cX10_cuts 9 = .ok (.invokevirtual 84, 3) := by decide +kernel
theorem dX10_cuts_12 : decode cX10_cuts 12 = .ok (.ifCond .ne 6, 3) := by decide +kernel
theorem dX10_cuts_15 : decode cX10_cuts 15 = .ok (.bipush 10, 2) := by decide +kernel
theorem dX10_cuts_17 : decode cX10_cuts 17 = .ok (.ireturn, 1) := by decide +kernel
theorem dX10_cuts_18 : decode cX10_cuts 18 = .ok (.iconst 0, 1) := by decide +kernel
theorem dX10_cuts_19 : decode cX10_cuts 19 = .ok (.istore 4, 2) := by decide +kernel
theorem dX10_cuts_21 : decode cX10_cuts 21 = .ok (.aload_n 0, 1) := by decide +kernel
theorem dX10_cuts_22 : decode cX10_cuts 22 = .ok (.iload_n 1, 1) := by decide +kernel
theorem dX10_cuts_23 : decode cX10_cuts 23 = .ok (.iconst 1, 1) := by decide +kernel
theorem dX10_cuts_24 : decode cX10_cuts 24 = .ok (.invokevirtual 61, 3) := by decide +kernel
theorem dX10_cuts_27 : decode cX10_cuts 27 = .ok (.aload_n 0, 1) := by decide +kernel
theorem dX10_cuts_28 : decode cX10_cuts 28 = .ok (.iload_n 1, 1) := by decide +kernel
theorem dX10_cuts_29 : decode cX10_cuts 29 = .ok (.iconst 2, 1) := by decide +kernel
theorem dX10_cuts_30 : decode cX10_cuts 30 = .ok (.invokevirtual 61, 3) := by decide +kernel
theorem dX10_cuts_33 : decode cX10_cuts 33 = .ok (.imul, 1) := by decide +kernel
theorem dX10_cuts_34 : decode cX10_cuts 34 = .ok (.istore 5, 2) := by decide +kernel
theorem dX10_cuts_36 : decode cX10_cuts 36 = .ok (.aload_n 0, 1) := by decide +kernel
theorem dX10_cuts_37 : decode cX10_cuts 37 = .ok (.iload_n 2, 1) := by decide +kernel
theorem dX10_cuts_38 : decode cX10_cuts 38 = .ok (.invokevirtual 51, 3) := by decide +kernel
theorem dX10_cuts_41 : decode cX10_cuts 41 = .ok (.iload 5, 2) := by decide +kernel
theorem dX10_cuts_43 : decode cX10_cuts 43 = .ok (.isub, 1) := by decide +kernel
theorem dX10_cuts_44 : decode cX10_cuts 44 = .ok (.istore 6, 2) := by decide +kernel
theorem dX10_cuts_46 : decode cX10_cuts 46 = .ok (.iconst 0, 1) := by decide +kernel
theorem dX10_cuts_47 : decode cX10_cuts 47 = .ok (.istore 7, 2) := by decide +kernel
theorem dX10_cuts_49 : decode cX10_cuts 49 = .ok (.iload 7, 2) := by decide +kernel
theorem dX10_cuts_51 : decode cX10_cuts 51 = .ok (.iconst 2, 1) := by decide +kernel
theorem dX10_cuts_52 : decode cX10_cuts 52 = .ok (.if_icmp .ge 109, 3) := by decide +kernel
theorem dX10_cuts_55 : decode cX10_cuts 55 = .ok (.aload_n 0, 1) := by decide +kernel
theorem dX10_cuts_56 : decode cX10_cuts 56 = .ok (.iload_n 1, 1) := by decide +kernel
theorem dX10_cuts_57 : decode cX10_cuts 57 = .ok (.iload_n 2, 1) := by decide +kernel
theorem dX10_cuts_58 : decode cX10_cuts 58 = .ok (.iload 7, 2) := by decide +kernel
theorem dX10_cuts_60 : decode cX10_cuts 60 = .ok (.invokevirtual 77, 3) := by decide +kernel
theorem dX10_cuts_63 : decode cX10_cuts 63 = .ok (.istore 8, 2) := by decide +kernel
theorem dX10_cuts_65 : decode cX10_cuts 65 = .ok (.iload 6, 2) := by decide +kernel
theorem dX10_cuts_67 : decode cX10_cuts 67 = .ok (.iload 8, 2) := by decide +kernel
theorem dX10_cuts_69 : decode cX10_cuts 69 = .ok (.isub, 1) := by decide +kernel
theorem dX10_cuts_70 : decode cX10_cuts 70 = .ok (.istore 6, 2) := by decide +kernel
theorem dX10_cuts_72 : decode cX10_cuts 72 = .ok (.aload_n 0, 1) := by decide +kernel
theorem dX10_cuts_73 : decode cX10_cuts 73 = .ok (.iload_n 1, 1) := by decide +kernel
theorem dX10_cuts_74 : decode cX10_cuts 74 = .ok (.iload_n 2, 1) := by decide +kernel
theorem dX10_cuts_75 : decode cX10_cuts 75 = .ok (.iload 7, 2) := by decide +kernel
theorem dX10_cuts_77 : decode cX10_cuts 77 = .ok (.invokevirtual 74, 3) := by decide +kernel
theorem dX10_cuts_80 : decode cX10_cuts 80 = .ok (.ifCond .eq 64, 3) := by decide +kernel
theorem dX10_cuts_83 : decode cX10_cuts 83 = .ok (.aload_n 0, 1) := by decide +kernel
theorem dX10_cuts_84 : decode cX10_cuts 84 = .ok (.iload_n 3, 1) := by decide +kernel
theorem dX10_cuts_85 : decode cX10_cuts 85 = .ok (.invokevirtual 40, 3) := by decide +kernel
theorem dX10_cuts_88 : decode cX10_cuts 88 = .ok (.bipush 8, 2) := by decide +kernel
theorem dX10_cuts_90 : decode cX10_cuts 90 = .ok (.if_icmp .ge 54, 3) := by decide +kernel
theorem dX10_cuts_93 : decode cX10_cuts 93 = .ok (.aload_n 0, 1) := by decide +kernel
theorem dX10_cuts_94 : decode cX10_cuts 94 = .ok (.getfield 7, 3) := by decide +kernel
theorem dX10_cuts_97 : decode cX10_cuts 97 = .ok (.bipush 8, 2) := by decide +kernel
theorem dX10_cuts_99 : decode cX10_cuts 99 = .ok (.iaload, 1) := by decide +kernel
theorem dX10_cuts_100 : decode cX10_cuts 100 = .ok (.sipush 200, 3) := by decide +kernel
theorem dX10_cuts_103 : decode cX10_cuts 103 = .ok (.if_icmp .ge 41, 3) := by decide +kernel
theorem dX10_cuts_106 : decode cX10_cuts 106 = .ok (.aload_n 0, 1) := by decide +kernel
theorem dX10_cuts_107 : decode cX10_cuts 107 = .ok (.iload_n 3, 1) := by decide +kernel
theorem dX10_cuts_108 : decode cX10_cuts 108 = .ok (.aload_n 0, 1) := by decide +kernel
theorem dX10_cuts_109 : decode cX10_cuts 109 = .ok (.iload_n 2, 1) := by decide +kernel
theorem dX10_cuts_110 : decode cX10_cuts 110 = .ok (.iconst 0, 1) := by decide +kernel
theorem dX10_cuts_111 : decode cX10_cuts 111 = .ok (.invokevirtual 29, 3) := by decide +kernel
theorem dX10_cuts_114 : decode cX10_cuts 114 = .ok (.aload_n 0, 1) := by decide +kernel
theorem dX10_cuts_115 : decode cX10_cuts 115 = .ok (.iload_n 1, 1) := by decide +kernel
theorem dX10_cuts_116 : decode cX10_cuts 116 = .ok (.iload_n 2, 1) := by decide +kernel
theorem dX10_cuts_117 : decode cX10_cuts 117 = .ok (.iload 7, 2) := by decide +kernel
theorem dX10_cuts_119 : decode cX10_cuts 119 = .ok (.iconst 0, 1) := by decide +kernel
theorem dX10_cuts_120 : decode cX10_cuts 120 = .ok (.invokevirtual 70, 3) := by decide +kernel
theorem dX10_cuts_123 : decode cX10_cuts 123 = .ok (.aload_n 0, 1) := by decide +kernel
theorem dX10_cuts_124 : decode cX10_cuts 124 = .ok (.iload_n 1, 1) := by decide +kernel
theorem dX10_cuts_125 : decode cX10_cuts 125 = .ok (.iload_n 2, 1) := by decide +kernel
theorem dX10_cuts_126 : decode cX10_cuts 126 = .ok (.iload 7, 2) := by decide +kernel
theorem dX10_cuts_128 : decode cX10_cuts 128 = .ok (.iconst 1, 1) := by decide +kernel
theorem dX10_cuts_129 : decode cX10_cuts 129 = .ok (.invokevirtual 70, 3) := by decide +kernel
theorem dX10_cuts_132 : decode cX10_cuts 132 = .ok (.iload_n 2, 1) := by decide +kernel
theorem dX10_cuts_133 : decode cX10_cuts 133 = .ok (.invokevirtual 87, 3) := by decide +kernel
theorem dX10_cuts_136 : decode cX10_cuts 136 = .ok (.istore 9, 2) := by decide +kernel
theorem dX10_cuts_138 : decode cX10_cuts 138 = .ok (.iinc 4 1, 3) := by decide +kernel
theorem dX10_cuts_141 : decode cX10_cuts 141 = .ok (.goto 14, 3) := by decide +kernel
theorem dX10_cuts_144 : decode cX10_cuts 144 = .ok (.aload_n 0, 1) := by decide +kernel
theorem dX10_cuts_145 : decode cX10_cuts 145 = .ok (.getfield 7, 3) := by decide +kernel
theorem dX10_cuts_148 : decode cX10_cuts 148 = .ok (.iconst 3, 1) := by decide +kernel
theorem dX10_cuts_149 : decode cX10_cuts 149 = .ok (.dup2, 1) := by decide +kernel
theorem dX10_cuts_150 : decode cX10_cuts 150 = .ok (.iaload, 1) := by decide +kernel
theorem dX10_cuts_151 : decode cX10_cuts 151 = .ok (.iload 8, 2) := by decide +kernel
theorem dX10_cuts_153 : decode cX10_cuts 153 = .ok (.iadd, 1) := by decide +kernel
theorem dX10_cuts_154 : decode cX10_cuts 154 = .ok (.iastore, 1) := by decide +kernel
theorem dX10_cuts_155 : decode cX10_cuts 155 = .ok (.iinc 7 1, 3) := by decide +kernel
theorem dX10_cuts_158 : decode cX10_cuts 158 = .ok (.goto (-109), 3) := by decide +kernel
theorem dX10_cuts_161 : decode cX10_cuts 161 = .ok (.aload_n 0, 1) := by decide +kernel
theorem dX10_cuts_162 : decode cX10_cuts 162 = .ok (.getfield 7, 3) := by decide +kernel
theorem dX10_cuts_165 : decode cX10_cuts 165 = .ok (.iconst 2, 1) := by decide +kernel
theorem dX10_cuts_166 : decode cX10_cuts 166 = .ok (.dup2, 1) := by decide +kernel
theorem dX10_cuts_167 : decode cX10_cuts 167 = .ok (.iaload, 1) := by decide +kernel
theorem dX10_cuts_168 : decode cX10_cuts 168 = .ok (.iload 5, 2) := by decide +kernel
theorem dX10_cuts_170 : decode cX10_cuts 170 = .ok (.iadd, 1) := by decide +kernel
theorem dX10_cuts_171 : decode cX10_cuts 171 = .ok (.iastore, 1) := by decide +kernel
theorem dX10_cuts_172 : decode cX10_cuts 172 = .ok (.aload_n 0, 1) := by decide +kernel
theorem dX10_cuts_173 : decode cX10_cuts 173 = .ok (.getfield 7, 3) := by decide +kernel
theorem dX10_cuts_176 : decode cX10_cuts 176 = .ok (.iconst 5, 1) := by decide +kernel
theorem dX10_cuts_177 : decode cX10_cuts 177 = .ok (.dup2, 1) := by decide +kernel
theorem dX10_cuts_178 : decode cX10_cuts 178 = .ok (.iaload, 1) := by decide +kernel
theorem dX10_cuts_179 : decode cX10_cuts 179 = .ok (.iload 6, 2) := by decide +kernel
theorem dX10_cuts_181 : decode cX10_cuts 181 = .ok (.iadd, 1) := by decide +kernel
theorem dX10_cuts_182 : decode cX10_cuts 182 = .ok (.iastore, 1) := by decide +kernel
theorem dX10_cuts_183 : decode cX10_cuts 183 = .ok (.aload_n 0, 1) := by decide +kernel
theorem dX10_cuts_184 : decode cX10_cuts 184 = .ok (.getfield 7, 3) := by decide +kernel
theorem dX10_cuts_187 : decode cX10_cuts 187 = .ok (.sipush 1050, 3) := by decide +kernel
theorem dX10_cuts_190 : decode cX10_cuts 190 = .ok (.bipush 7, 2) := by decide +kernel
theorem dX10_cuts_192 : decode cX10_cuts 192 = .ok (.iload_n 1, 1) := by decide +kernel
theorem dX10_cuts_193 : decode cX10_cuts 193 = .ok (.imul, 1) := by decide +kernel
theorem dX10_cuts_194 : decode cX10_cuts 194 = .ok (.iadd, 1) := by decide +kernel
theorem dX10_cuts_195 : decode cX10_cuts 195 = .ok (.iconst 4, 1) := by decide +kernel
theorem dX10_cuts_196 : decode cX10_cuts 196 = .ok (.iadd, 1) := by decide +kernel
theorem dX10_cuts_197 : decode cX10_cuts 197 = .ok (.iconst 1, 1) := by decide +kernel
theorem dX10_cuts_198 : decode cX10_cuts 198 = .ok (.iastore, 1) := by decide +kernel
theorem dX10_cuts_199 : decode cX10_cuts 199 = .ok (.aload_n 0, 1) := by decide +kernel
theorem dX10_cuts_200 : decode cX10_cuts 200 = .ok (.getfield 7, 3) := by decide +kernel
theorem dX10_cuts_203 : decode cX10_cuts 203 = .ok (.sipush 1050, 3) := by decide +kernel
theorem dX10_cuts_206 : decode cX10_cuts 206 = .ok (.bipush 7, 2) := by decide +kernel
theorem dX10_cuts_208 : decode cX10_cuts 208 = .ok (.iload_n 1, 1) := by decide +kernel
theorem dX10_cuts_209 : decode cX10_cuts 209 = .ok (.imul, 1) := by decide +kernel
theorem dX10_cuts_210 : decode cX10_cuts 210 = .ok (.iadd, 1) := by decide +kernel
theorem dX10_cuts_211 : decode cX10_cuts 211 = .ok (.iconst 5, 1) := by decide +kernel
theorem dX10_cuts_212 : decode cX10_cuts 212 = .ok (.iadd, 1) := by decide +kernel
theorem dX10_cuts_213 : decode cX10_cuts 213 = .ok (.iload_n 2, 1) := by decide +kernel
theorem dX10_cuts_214 : decode cX10_cuts 214 = .ok (.iastore, 1) := by decide +kernel
theorem dX10_cuts_215 : decode cX10_cuts 215 = .ok (.aload_n 0, 1) := by decide +kernel
theorem dX10_cuts_216 : decode cX10_cuts 216 = .ok (.getfield 7, 3) := by decide +kernel
theorem dX10_cuts_219 : decode cX10_cuts 219 = .ok (.sipush 1050, 3) := by decide +kernel
theorem dX10_cuts_222 : decode cX10_cuts 222 = .ok (.bipush 7, 2) := by decide +kernel
theorem dX10_cuts_224 : decode cX10_cuts 224 = .ok (.iload_n 1, 1) := by decide +kernel
theorem dX10_cuts_225 : decode cX10_cuts 225 = .ok (.imul, 1) := by decide +kernel
theorem dX10_cuts_226 : decode cX10_cuts 226 = .ok (.iadd, 1) := by decide +kernel
theorem dX10_cuts_227 : decode cX10_cuts 227 = .ok (.bipush 6, 2) := by decide +kernel
theorem dX10_cuts_229 : decode cX10_cuts 229 = .ok (.iadd, 1) := by decide +kernel
theorem dX10_cuts_230 : decode cX10_cuts 230 = .ok (.aload_n 0, 1) := by decide +kernel
theorem dX10_cuts_231 : decode cX10_cuts 231 = .ok (.getfield 7, 3) := by decide +kernel
theorem dX10_cuts_234 : decode cX10_cuts 234 = .ok (.iconst 0, 1) := by decide +kernel
theorem dX10_cuts_235 : decode cX10_cuts 235 = .ok (.iaload, 1) := by decide +kernel
theorem dX10_cuts_236 : decode cX10_cuts 236 = .ok (.iastore, 1) := by decide +kernel
theorem dX10_cuts_237 : decode cX10_cuts 237 = .ok (.iload 4, 2) := by decide +kernel
theorem dX10_cuts_239 : decode cX10_cuts 239 = .ok (.ireturn, 1) := by decide +kernel
theorem dX10_goes_0 : decode cX10_goes 0 = .ok (.iload_n 3, 1) := by decide +kernel
theorem dX10_goes_1 : decode cX10_goes 1 = .ok (.ifCond .ne 11, 3) := by decide +kernel
theorem dX10_goes_4 : decode cX10_goes 4 = .ok (.aload_n 0, 1) := by decide +kernel
theorem dX10_goes_5 : decode cX10_goes 5 = .ok (.iload_n 2, 1) := by decide +kernel
theorem dX10_goes_6 : decode cX10_goes 6 = .ok (.invokevirtual 51, 3) := by decide +kernel
theorem dX10_goes_9 : decode cX10_goes 9 = .ok (.goto 22, 3) := by decide +kernel
theorem dX10_goes_12 : decode cX10_goes 12 = .ok (.iload_n 3, 1) := by decide +kernel
theorem dX10_goes_13 : decode cX10_goes 13 = .ok (.iconst 1, 1) := by decide +kernel
theorem dX10_goes_14 : decode cX10_goes 14 = .ok (.if_icmp .ne 11, 3) := by decide +kernel
theorem dX10_goes_17 : decode cX10_goes 17 = .ok (.aload_n 0, 1) := by decide +kernel
theorem dX10_goes_18 : decode cX10_goes 18 = .ok (.iload_n 2, 1) := by decide +kernel
theorem dX10_goes_19 : decode cX10_goes 19 = .ok (.invokevirtual 54, 3) := by decide +kernel
theorem dX10_goes_22 : decode cX10_goes 22 = .ok (.goto 9, 3) := by decide +kernel
theorem dX10_goes_25 : decode cX10_goes 25 = .ok (.aload_n 0, 1) := by decide +kernel
theorem dX10_goes_26 : decode cX10_goes 26 = .ok (.iload_n 1, 1) := by decide +kernel
theorem dX10_goes_27 : decode cX10_goes 27 = .ok (.iload_n 2, 1) := by decide +kernel
theorem dX10_goes_28 : decode cX10_goes 28 = .ok (.invokevirtual 91, 3) := by decide +kernel
theorem dX10_goes_31 : decode cX10_goes 31 = .ok (.ireturn, 1) := by decide +kernel
theorem dX10_chosen_0 : decode cX10_chosen 0 = .ok (.bipush (-5), 2) := by decide +kernel
theorem dX10_chosen_2 : decode cX10_chosen 2 = .ok (.istore_n 3, 1) := by decide +kernel
theorem dX10_chosen_3 : decode cX10_chosen 3 = .ok (.iconst 0, 1) := by decide +kernel
theorem dX10_chosen_4 : decode cX10_chosen 4 = .ok (.istore 4, 2) := by decide +kernel
theorem dX10_chosen_6 : decode cX10_chosen 6 = .ok (.iload 4, 2) := by decide +kernel
theorem dX10_chosen_8 : decode cX10_chosen 8 = .ok (.aload_n 0, 1) := by decide +kernel
theorem dX10_chosen_9 : decode cX10_chosen 9 = .ok (.getfield 7, 3) := by decide +kernel
theorem dX10_chosen_12 : decode cX10_chosen 12 = .ok (.bipush 8, 2) := by decide +kernel
theorem dX10_chosen_14 : decode cX10_chosen 14 = .ok (.iaload, 1) := by decide +kernel
theorem dX10_chosen_15 : decode cX10_chosen 15 = .ok (.if_icmp .ge 56, 3) := by decide +kernel
theorem dX10_chosen_18 : decode cX10_chosen 18 = .ok (.aload_n 0, 1) := by decide +kernel
theorem dX10_chosen_19 : decode cX10_chosen 19 = .ok (.iload 4, 2) := by decide +kernel
theorem dX10_chosen_21 : decode cX10_chosen 21 = .ok (.iconst 3, 1) := by decide +kernel
theorem dX10_chosen_22 : decode cX10_chosen 22 = .ok (.invokevirtual 29, 3) := by decide +kernel
theorem dX10_chosen_25 : decode cX10_chosen 25 = .ok (.ifCond .lt 40, 3) := by decide +kernel
theorem dX10_chosen_28 : decode cX10_chosen 28 = .ok (.aload_n 0, 1) := by decide +kernel
theorem dX10_chosen_29 : decode cX10_chosen 29 = .ok (.iload_n 1, 1) := by decide +kernel
theorem dX10_chosen_30 : decode cX10_chosen 30 = .ok (.iload 4, 2) := by decide +kernel
theorem dX10_chosen_32 : decode cX10_chosen 32 = .ok (.invokevirtual 67, 3) := by decide +kernel
theorem dX10_chosen_35 : decode cX10_chosen 35 = .ok (.ifCond .lt 30, 3) := by decide +kernel
theorem dX10_chosen_38 : decode cX10_chosen 38 = .ok (.iload_n 3, 1) := by decide +kernel
theorem dX10_chosen_39 : decode cX10_chosen 39 = .ok (.bipush (-5), 2) := by decide +kernel
theorem dX10_chosen_41 : decode cX10_chosen 41 = .ok (.if_icmp .eq 21, 3) := by decide +kernel
theorem dX10_chosen_44 : decode cX10_chosen 44 = .ok (.aload_n 0, 1) := by decide +kernel
theorem dX10_chosen_45 : decode cX10_chosen 45 = .ok (.iload_n 1, 1) := by decide +kernel
theorem dX10_chosen_46 : decode cX10_chosen 46 = .ok (.iload 4, 2) := by decide +kernel
theorem dX10_chosen_48 : decode cX10_chosen 48 = .ok (.iload_n 2, 1) := by decide +kernel
theorem dX10_chosen_49 : decode cX10_chosen 49 = .ok (.invokevirtual 94, 3) := by decide +kernel
theorem dX10_chosen_52 : decode cX10_chosen 52 = .ok (.aload_n 0, 1) := by decide +kernel
theorem dX10_chosen_53 : decode cX10_chosen 53 = .ok (.iload_n 1, 1) := by decide +kernel
theorem dX10_chosen_54 : decode cX10_chosen 54 = .ok (.iload_n 3, 1) := by decide +kernel
theorem dX10_chosen_55 : decode cX10_chosen 55 = .ok (.iload_n 2, 1) := by decide +kernel
theorem dX10_chosen_56 : decode cX10_chosen 56 = .ok (.invokevirtual 94, 3) := by decide +kernel
theorem dX10_chosen_59 : decode cX10_chosen 59 = .ok (.if_icmp .ge 6, 3) := by decide +kernel
theorem dX10_chosen_62 : decode cX10_chosen 62 = .ok (.iload 4, 2) := by decide +kernel
theorem dX10_chosen_64 : decode cX10_chosen 64 = .ok (.istore_n 3, 1) := by decide +kernel
theorem dX10_chosen_65 : decode cX10_chosen 65 = .ok (.iinc 4 1, 3) := by decide +kernel
theorem dX10_chosen_68 : decode cX10_chosen 68 = .ok (.goto (-62), 3) := by decide +kernel
theorem dX10_chosen_71 : decode cX10_chosen 71 = .ok (.iload_n 3, 1) := by decide +kernel
theorem dX10_chosen_72 : decode cX10_chosen 72 = .ok (.ireturn, 1) := by decide +kernel
theorem dX10_isAhead_0 : decode cX10_isAhead 0 = .ok (.aload_n 0, 1) := by decide +kernel
theorem dX10_isAhead_1 : decode cX10_isAhead 1 = .ok (.iload_n 1, 1) := by decide +kernel
theorem dX10_isAhead_2 : decode cX10_isAhead 2 = .ok (.iconst 3, 1) := by decide +kernel
theorem dX10_isAhead_3 : decode cX10_isAhead 3 = .ok (.invokevirtual 61, 3) := by decide +kernel
theorem dX10_isAhead_6 : decode cX10_isAhead 6 = .ok (.aload_n 0, 1) := by decide +kernel
theorem dX10_isAhead_7 : decode cX10_isAhead 7 = .ok (.iload_n 2, 1) := by decide +kernel
theorem dX10_isAhead_8 : decode cX10_isAhead 8 = .ok (.iconst 3, 1) := by decide +kernel
theorem dX10_isAhead_9 : decode cX10_isAhead 9 = .ok (.invokevirtual 61, 3) := by decide +kernel
theorem dX10_isAhead_12 : decode cX10_isAhead 12 = .ok (.isub, 1) := by decide +kernel
theorem dX10_isAhead_13 : decode cX10_isAhead 13 = .ok (.istore_n 3, 1) := by decide +kernel
theorem dX10_isAhead_14 : decode cX10_isAhead 14 = .ok (.aload_n 0, 1) := by decide +kernel
theorem dX10_isAhead_15 : decode cX10_isAhead 15 = .ok (.iload_n 2, 1) := by decide +kernel
theorem dX10_isAhead_16 : decode cX10_isAhead 16 = .ok (.iconst 1, 1) := by decide +kernel
theorem dX10_isAhead_17 : decode cX10_isAhead 17 = .ok (.invokevirtual 61, 3) := by decide +kernel
theorem dX10_isAhead_20 : decode cX10_isAhead 20 = .ok (.aload_n 0, 1) := by decide +kernel
theorem dX10_isAhead_21 : decode cX10_isAhead 21 = .ok (.iload_n 2, 1) := by decide +kernel
theorem dX10_isAhead_22 : decode cX10_isAhead 22 = .ok (.iconst 2, 1) := by decide +kernel
theorem dX10_isAhead_23 : decode cX10_isAhead 23 = .ok (.invokevirtual 61, 3) := by decide +kernel
theorem dX10_isAhead_26 : decode cX10_isAhead 26 = .ok (.imul, 1) := by decide +kernel
theorem dX10_isAhead_27 : decode cX10_isAhead 27 = .ok (.aload_n 0, 1) := by decide +kernel
theorem dX10_isAhead_28 : decode cX10_isAhead 28 = .ok (.iload_n 1, 1) := by decide +kernel
theorem dX10_isAhead_29 : decode cX10_isAhead 29 = .ok (.iconst 1, 1) := by decide +kernel
theorem dX10_isAhead_30 : decode cX10_isAhead 30 = .ok (.invokevirtual 61, 3) := by decide +kernel
theorem dX10_isAhead_33 : decode cX10_isAhead 33 = .ok (.aload_n 0, 1) := by decide +kernel
theorem dX10_isAhead_34 : decode cX10_isAhead 34 = .ok (.iload_n 1, 1) := by decide +kernel
theorem dX10_isAhead_35 : decode cX10_isAhead 35 = .ok (.iconst 2, 1) := by decide +kernel
theorem dX10_isAhead_36 : decode cX10_isAhead 36 = .ok (.invokevirtual 61, 3) := by decide +kernel
theorem dX10_isAhead_39 : decode cX10_isAhead 39 = .ok (.imul, 1) := by decide +kernel
theorem dX10_isAhead_40 : decode cX10_isAhead 40 = .ok (.isub, 1) := by decide +kernel
theorem dX10_isAhead_41 : decode cX10_isAhead 41 = .ok (.istore 4, 2) := by decide +kernel
theorem dX10_isAhead_43 : decode cX10_isAhead 43 = .ok (.iload_n 3, 1) := by decide +kernel
theorem dX10_isAhead_44 : decode cX10_isAhead 44 = .ok (.ifCond .lt 22, 3) := by decide +kernel
theorem dX10_isAhead_47 : decode cX10_isAhead 47 = .ok (.iload_n 3, 1) := by decide +kernel
theorem dX10_isAhead_48 : decode cX10_isAhead 48 = .ok (.ifCond .ne 22, 3) := by decide +kernel
theorem dX10_isAhead_51 : decode cX10_isAhead 51 = .ok (.iload 4, 2) := by decide +kernel
theorem dX10_isAhead_53 : decode cX10_isAhead 53 = .ok (.ifCond .lt 13, 3) := by decide +kernel
theorem dX10_isAhead_56 : decode cX10_isAhead 56 = .ok (.iload 4, 2) := by decide +kernel
theorem dX10_isAhead_58 : decode cX10_isAhead 58 = .ok (.ifCond .ne 12, 3) := by decide +kernel
theorem dX10_isAhead_61 : decode cX10_isAhead 61 = .ok (.iload_n 1, 1) := by decide +kernel
theorem dX10_isAhead_62 : decode cX10_isAhead 62 = .ok (.iload_n 2, 1) := by decide +kernel
theorem dX10_isAhead_63 : decode cX10_isAhead 63 = .ok (.if_icmp .ge 7, 3) := by decide +kernel
theorem dX10_isAhead_66 : decode cX10_isAhead 66 = .ok (.iconst 1, 1) := by decide +kernel
theorem dX10_isAhead_67 : decode cX10_isAhead 67 = .ok (.goto 4, 3) := by decide +kernel
theorem dX10_isAhead_70 : decode cX10_isAhead 70 = .ok (.iconst 0, 1) := by decide +kernel
theorem dX10_isAhead_71 : decode cX10_isAhead 71 = .ok (.ireturn, 1) := by decide +kernel
theorem dX10_first_0 : decode cX10_first 0 = .ok (.bipush (-5), 2) := by decide +kernel
theorem dX10_first_2 : decode cX10_first 2 = .ok (.istore_n 2, 1) := by decide +kernel
theorem dX10_first_3 : decode cX10_first 3 = .ok (.iconst 0, 1) := by decide +kernel
theorem dX10_first_4 : decode cX10_first 4 = .ok (.istore_n 3, 1) := by decide +kernel
theorem dX10_first_5 : decode cX10_first 5 = .ok (.iload_n 3, 1) := by decide +kernel
theorem dX10_first_6 : decode cX10_first 6 = .ok (.aload_n 0, 1) := by decide +kernel
theorem dX10_first_7 : decode cX10_first 7 = .ok (.getfield 7, 3) := by decide +kernel
theorem dX10_first_10 : decode cX10_first 10 = .ok (.bipush 7, 2) := by decide +kernel
theorem dX10_first_12 : decode cX10_first 12 = .ok (.iaload, 1) := by decide +kernel
theorem dX10_first_13 : decode cX10_first 13 = .ok (.if_icmp .ge 42, 3) := by decide +kernel
theorem dX10_first_16 : decode cX10_first 16 = .ok (.aload_n 0, 1) := by decide +kernel
theorem dX10_first_17 : decode cX10_first 17 = .ok (.iload_n 3, 1) := by decide +kernel
theorem dX10_first_18 : decode cX10_first 18 = .ok (.invokevirtual 64, 3) := by decide +kernel
theorem dX10_first_21 : decode cX10_first 21 = .ok (.ifCond .eq 28, 3) := by decide +kernel
theorem dX10_first_24 : decode cX10_first 24 = .ok (.iload_n 1, 1) := by decide +kernel
theorem dX10_first_25 : decode cX10_first 25 = .ok (.iload_n 3, 1) := by decide +kernel
theorem dX10_first_26 : decode cX10_first 26 = .ok (.ishr, 1) := by decide +kernel
theorem dX10_first_27 : decode cX10_first 27 = .ok (.iconst 1, 1) := by decide +kernel
theorem dX10_first_28 : decode cX10_first 28 = .ok (.iand, 1) := by decide +kernel
theorem dX10_first_29 : decode cX10_first 29 = .ok (.ifCond .ne 20, 3) := by decide +kernel
theorem dX10_first_32 : decode cX10_first 32 = .ok (.iload_n 2, 1) := by decide +kernel
theorem dX10_first_33 : decode cX10_first 33 = .ok (.bipush (-5), 2) := by decide +kernel
theorem dX10_first_35 : decode cX10_first 35 = .ok (.if_icmp .eq 12, 3) := by decide +kernel
theorem dX10_first_38 : decode cX10_first 38 = .ok (.aload_n 0, 1) := by decide +kernel
theorem dX10_first_39 : decode cX10_first 39 = .ok (.iload_n 3, 1) := by decide +kernel
theorem dX10_first_40 : decode cX10_first 40 = .ok (.iload_n 2, 1) := by decide +kernel
theorem dX10_first_41 : decode cX10_first 41 = .ok (.invokevirtual 97, 3) := by decide +kernel
theorem dX10_first_44 : decode cX10_first 44 = .ok (.ifCond .eq 5, 3) := by decide +kernel
theorem dX10_first_47 : decode cX10_first 47 = .ok (.iload_n 3, 1) := by decide +kernel
theorem dX10_first_48 : decode cX10_first 48 = .ok (.istore_n 2, 1) := by decide +kernel
theorem dX10_first_49 : decode cX10_first 49 = .ok (.iinc 3 1, 3) := by decide +kernel
theorem dX10_first_52 : decode cX10_first 52 = .ok (.goto (-47), 3) := by decide +kernel
theorem dX10_first_55 : decode cX10_first 55 = .ok (.iload_n 2, 1) := by decide +kernel
theorem dX10_first_56 : decode cX10_first 56 = .ok (.ireturn, 1) := by decide +kernel
theorem dX10_open_0 : decode cX10_open 0 = .ok (.iconst 0, 1) := by decide +kernel
theorem dX10_open_1 : decode cX10_open 1 = .ok (.istore_n 1, 1) := by decide +kernel
theorem dX10_open_2 : decode cX10_open 2 = .ok (.iconst 0, 1) := by decide +kernel
theorem dX10_open_3 : decode cX10_open 3 = .ok (.istore_n 2, 1) := by decide +kernel
theorem dX10_open_4 : decode cX10_open 4 = .ok (.iload_n 2, 1) := by decide +kernel
theorem dX10_open_5 : decode cX10_open 5 = .ok (.aload_n 0, 1) := by decide +kernel
theorem dX10_open_6 : decode cX10_open 6 = .ok (.getfield 7, 3) := by decide +kernel
theorem dX10_open_9 : decode cX10_open 9 = .ok (.bipush 7, 2) := by decide +kernel
theorem dX10_open_11 : decode cX10_open 11 = .ok (.iaload, 1) := by decide +kernel
theorem dX10_open_12 : decode cX10_open 12 = .ok (.if_icmp .ge 25, 3) := by decide +kernel
theorem dX10_open_15 : decode cX10_open 15 = .ok (.iload_n 1, 1) := by decide +kernel
theorem dX10_open_16 : decode cX10_open 16 = .ok (.aload_n 0, 1) := by decide +kernel
theorem dX10_open_17 : decode cX10_open 17 = .ok (.iload_n 2, 1) := by decide +kernel
theorem dX10_open_18 : decode cX10_open 18 = .ok (.invokevirtual 64, 3) := by decide +kernel
theorem dX10_open_21 : decode cX10_open 21 = .ok (.ifCond .eq 7, 3) := by decide +kernel
theorem dX10_open_24 : decode cX10_open 24 = .ok (.iconst 1, 1) := by decide +kernel
theorem dX10_open_25 : decode cX10_open 25 = .ok (.goto 4, 3) := by decide +kernel
theorem dX10_open_28 : decode cX10_open 28 = .ok (.iconst 0, 1) := by decide +kernel
theorem dX10_open_29 : decode cX10_open 29 = .ok (.iadd, 1) := by decide +kernel
theorem dX10_open_30 : decode cX10_open 30 = .ok (.istore_n 1, 1) := by decide +kernel
theorem dX10_open_31 : decode cX10_open 31 = .ok (.iinc 2 1, 3) := by decide +kernel
theorem dX10_open_34 : decode cX10_open 34 = .ok (.goto (-30), 3) := by decide +kernel
theorem dX10_open_37 : decode cX10_open 37 = .ok (.iload_n 1, 1) := by decide +kernel
theorem dX10_open_38 : decode cX10_open 38 = .ok (.ireturn, 1) := by decide +kernel
theorem dX10_late_0 : decode cX10_late 0 = .ok (.iconst 0, 1) := by decide +kernel
theorem dX10_late_1 : decode cX10_late 1 = .ok (.istore_n 1, 1) := by decide +kernel
theorem dX10_late_2 : decode cX10_late 2 = .ok (.iconst 0, 1) := by decide +kernel
theorem dX10_late_3 : decode cX10_late 3 = .ok (.istore_n 2, 1) := by decide +kernel
theorem dX10_late_4 : decode cX10_late 4 = .ok (.iload_n 2, 1) := by decide +kernel
theorem dX10_late_5 : decode cX10_late 5 = .ok (.aload_n 0, 1) := by decide +kernel
theorem dX10_late_6 : decode cX10_late 6 = .ok (.getfield 7, 3) := by decide +kernel
theorem dX10_late_9 : decode cX10_late 9 = .ok (.bipush 7, 2) := by decide +kernel
theorem dX10_late_11 : decode cX10_late 11 = .ok (.iaload, 1) := by decide +kernel
theorem dX10_late_12 : decode cX10_late 12 = .ok (.if_icmp .ge 25, 3) := by decide +kernel
theorem dX10_late_15 : decode cX10_late 15 = .ok (.iload_n 1, 1) := by decide +kernel
theorem dX10_late_16 : decode cX10_late 16 = .ok (.aload_n 0, 1) := by decide +kernel
theorem dX10_late_17 : decode cX10_late 17 = .ok (.iload_n 2, 1) := by decide +kernel
theorem dX10_late_18 : decode cX10_late 18 = .ok (.invokevirtual 101, 3) := by decide +kernel
theorem dX10_late_21 : decode cX10_late 21 = .ok (.ifCond .eq 7, 3) := by decide +kernel
theorem dX10_late_24 : decode cX10_late 24 = .ok (.iconst 1, 1) := by decide +kernel
theorem dX10_late_25 : decode cX10_late 25 = .ok (.goto 4, 3) := by decide +kernel
theorem dX10_late_28 : decode cX10_late 28 = .ok (.iconst 0, 1) := by decide +kernel
theorem dX10_late_29 : decode cX10_late 29 = .ok (.iadd, 1) := by decide +kernel
theorem dX10_late_30 : decode cX10_late 30 = .ok (.istore_n 1, 1) := by decide +kernel
theorem dX10_late_31 : decode cX10_late 31 = .ok (.iinc 2 1, 3) := by decide +kernel
theorem dX10_late_34 : decode cX10_late 34 = .ok (.goto (-30), 3) := by decide +kernel
theorem dX10_late_37 : decode cX10_late 37 = .ok (.iload_n 1, 1) := by decide +kernel
theorem dX10_late_38 : decode cX10_late 38 = .ok (.ireturn, 1) := by decide +kernel
theorem dX10_plans_0 : decode cX10_plans 0 = .ok (.iconst 0, 1) := by decide +kernel
theorem dX10_plans_1 : decode cX10_plans 1 = .ok (.istore_n 2, 1) := by decide +kernel
theorem dX10_plans_2 : decode cX10_plans 2 = .ok (.iconst 0, 1) := by decide +kernel
theorem dX10_plans_3 : decode cX10_plans 3 = .ok (.istore_n 3, 1) := by decide +kernel
theorem dX10_plans_4 : decode cX10_plans 4 = .ok (.aload_n 0, 1) := by decide +kernel
theorem dX10_plans_5 : decode cX10_plans 5 = .ok (.iconst 0, 1) := by decide +kernel
theorem dX10_plans_6 : decode cX10_plans 6 = .ok (.invokevirtual 104, 3) := by decide +kernel
theorem dX10_plans_9 : decode cX10_plans 9 = .ok (.istore 4, 2) := by decide +kernel
theorem dX10_plans_11 : decode cX10_plans 11 = .ok (.iload 4, 2) := by decide +kernel
theorem dX10_plans_13 : decode cX10_plans 13 = .ok (.bipush (-5), 2) := by decide +kernel
theorem dX10_plans_15 : decode cX10_plans 15 = .ok (.if_icmp .eq 57, 3) := by decide +kernel
theorem dX10_plans_18 : decode cX10_plans 18 = .ok (.iload_n 2, 1) := by decide +kernel
theorem dX10_plans_19 : decode cX10_plans 19 = .ok (.iconst 1, 1) := by decide +kernel
theorem dX10_plans_20 : decode cX10_plans 20 = .ok (.iload 4, 2) := by decide +kernel
theorem dX10_plans_22 : decode cX10_plans 22 = .ok (.ishl, 1) := by decide +kernel
theorem dX10_plans_23 : decode cX10_plans 23 = .ok (.ior, 1) := by decide +kernel
theorem dX10_plans_24 : decode cX10_plans 24 = .ok (.istore_n 2, 1) := by decide +kernel
theorem dX10_plans_25 : decode cX10_plans 25 = .ok (.aload_n 0, 1) := by decide +kernel
theorem dX10_plans_26 : decode cX10_plans 26 = .ok (.iload 4, 2) := by decide +kernel
theorem dX10_plans_28 : decode cX10_plans 28 = .ok (.iload_n 1, 1) := by decide +kernel
theorem dX10_plans_29 : decode cX10_plans 29 = .ok (.invokevirtual 107, 3) := by decide +kernel
theorem dX10_plans_32 : decode cX10_plans 32 = .ok (.istore 5, 2) := by decide +kernel
theorem dX10_plans_34 : decode cX10_plans 34 = .ok (.iload_n 3, 1) := by decide +kernel
theorem dX10_plans_35 : decode cX10_plans 35 = .ok (.iload 5, 2) := by decide +kernel
theorem dX10_plans_37 : decode cX10_plans 37 = .ok (.bipush (-5), 2) := by decide +kernel
theorem dX10_plans_39 : decode cX10_plans 39 = .ok (.if_icmp .eq 20, 3) := by decide +kernel
theorem dX10_plans_42 : decode cX10_plans 42 = .ok (.aload_n 0, 1) := by decide +kernel
theorem dX10_plans_43 : decode cX10_plans 43 = .ok (.iload 4, 2) := by decide +kernel
theorem dX10_plans_45 : decode cX10_plans 45 = .ok (.iload 5, 2) := by decide +kernel
theorem dX10_plans_47 : decode cX10_plans 47 = .ok (.invokevirtual 110, 3) := by decide +kernel
theorem dX10_plans_50 : decode cX10_plans 50 = .ok (.bipush 10, 2) := by decide +kernel
theorem dX10_plans_52 : decode cX10_plans 52 = .ok (.if_icmp .ge 7, 3) := by decide +kernel
theorem dX10_plans_55 : decode cX10_plans 55 = .ok (.iconst 1, 1) := by decide +kernel
theorem dX10_plans_56 : decode cX10_plans 56 = .ok (.goto 4, 3) := by decide +kernel
theorem dX10_plans_59 : decode cX10_plans 59 = .ok (.iconst 0, 1) := by decide +kernel
theorem dX10_plans_60 : decode cX10_plans 60 = .ok (.iadd, 1) := by decide +kernel
theorem dX10_plans_61 : decode cX10_plans 61 = .ok (.istore_n 3, 1) := by decide +kernel
theorem dX10_plans_62 : decode cX10_plans 62 = .ok (.aload_n 0, 1) := by decide +kernel
theorem dX10_plans_63 : decode cX10_plans 63 = .ok (.iload_n 2, 1) := by decide +kernel
theorem dX10_plans_64 : decode cX10_plans 64 = .ok (.invokevirtual 104, 3) := by decide +kernel
theorem dX10_plans_67 : decode cX10_plans 67 = .ok (.istore 4, 2) := by decide +kernel
theorem dX10_plans_69 : decode cX10_plans 69 = .ok (.goto (-58), 3) := by decide +kernel
theorem dX10_plans_72 : decode cX10_plans 72 = .ok (.iload_n 3, 1) := by decide +kernel
theorem dX10_plans_73 : decode cX10_plans 73 = .ok (.ireturn, 1) := by decide +kernel
theorem dX10_set_0 : decode cX10_set 0 = .ok (.iload_n 1, 1) := by decide +kernel
theorem dX10_set_1 : decode cX10_set 1 = .ok (.iconst 1, 1) := by decide +kernel
theorem dX10_set_2 : decode cX10_set 2 = .ok (.if_icmp .ne 7, 3) := by decide +kernel
theorem dX10_set_5 : decode cX10_set 5 = .ok (.iconst 1, 1) := by decide +kernel
theorem dX10_set_6 : decode cX10_set 6 = .ok (.goto 4, 3) := by decide +kernel
theorem dX10_set_9 : decode cX10_set 9 = .ok (.iconst 0, 1) := by decide +kernel
theorem dX10_set_10 : decode cX10_set 10 = .ok (.istore_n 3, 1) := by decide +kernel
theorem dX10_set_11 : decode cX10_set 11 = .ok (.iload_n 1, 1) := by decide +kernel
theorem dX10_set_12 : decode cX10_set 12 = .ok (.ifCond .ne 7, 3) := by decide +kernel
theorem dX10_set_15 : decode cX10_set 15 = .ok (.iconst 5, 1) := by decide +kernel
theorem dX10_set_16 : decode cX10_set 16 = .ok (.goto 24, 3) := by decide +kernel
theorem dX10_set_19 : decode cX10_set 19 = .ok (.iload_n 1, 1) := by decide +kernel
theorem dX10_set_20 : decode cX10_set 20 = .ok (.iconst 1, 1) := by decide +kernel
theorem dX10_set_21 : decode cX10_set 21 = .ok (.if_icmp .ne 8, 3) := by decide +kernel
theorem dX10_set_24 : decode cX10_set 24 = .ok (.bipush 99, 2) := by decide +kernel
theorem dX10_set_26 : decode cX10_set 26 = .ok (.goto 14, 3) := by decide +kernel
theorem dX10_set_29 : decode cX10_set 29 = .ok (.iload_n 1, 1) := by decide +kernel
theorem dX10_set_30 : decode cX10_set 30 = .ok (.iconst 3, 1) := by decide +kernel
theorem dX10_set_31 : decode cX10_set 31 = .ok (.if_icmp .ne 8, 3) := by decide +kernel
theorem dX10_set_34 : decode cX10_set 34 = .ok (.bipush 50, 2) := by decide +kernel
theorem dX10_set_36 : decode cX10_set 36 = .ok (.goto 4, 3) := by decide +kernel
theorem dX10_set_39 : decode cX10_set 39 = .ok (.iconst 1, 1) := by decide +kernel
theorem dX10_set_40 : decode cX10_set 40 = .ok (.istore 4, 2) := by decide +kernel
theorem dX10_set_42 : decode cX10_set 42 = .ok (.iload_n 1, 1) := by decide +kernel
theorem dX10_set_43 : decode cX10_set 43 = .ok (.iconst 0, 1) := by decide +kernel
theorem dX10_set_44 : decode cX10_set 44 = .ok (.iconst 4, 1) := by decide +kernel
theorem dX10_set_45 : decode cX10_set 45 = .ok (.invokestatic 33, 3) := by decide +kernel
theorem dX10_set_48 : decode cX10_set 48 = .ok (.ifCond .eq 13, 3) := by decide +kernel
theorem dX10_set_51 : decode cX10_set 51 = .ok (.iload_n 2, 1) := by decide +kernel
theorem dX10_set_52 : decode cX10_set 52 = .ok (.iload_n 3, 1) := by decide +kernel
theorem dX10_set_53 : decode cX10_set 53 = .ok (.iload 4, 2) := by decide +kernel
theorem dX10_set_55 : decode cX10_set 55 = .ok (.invokestatic 33, 3) := by decide +kernel
theorem dX10_set_58 : decode cX10_set 58 = .ok (.ifCond .ne 6, 3) := by decide +kernel
theorem dX10_set_61 : decode cX10_set 61 = .ok (.bipush (-2), 2) := by decide +kernel
theorem dX10_set_63 : decode cX10_set 63 = .ok (.ireturn, 1) := by decide +kernel
theorem dX10_set_64 : decode cX10_set 64 = .ok (.aload_n 0, 1) := by decide +kernel
theorem dX10_set_65 : decode cX10_set 65 = .ok (.iload_n 1, 1) := by decide +kernel
theorem dX10_set_66 : decode cX10_set 66 = .ok (.invokevirtual 48, 3) := by decide +kernel
theorem dX10_set_69 : decode cX10_set 69 = .ok (.istore 5, 2) := by decide +kernel
theorem dX10_set_71 : decode cX10_set 71 = .ok (.iload 5, 2) := by decide +kernel
theorem dX10_set_73 : decode cX10_set 73 = .ok (.iload_n 2, 1) := by decide +kernel
theorem dX10_set_74 : decode cX10_set 74 = .ok (.if_icmp .ne 6, 3) := by decide +kernel
theorem dX10_set_77 : decode cX10_set 77 = .ok (.bipush (-5), 2) := by decide +kernel
theorem dX10_set_79 : decode cX10_set 79 = .ok (.ireturn, 1) := by decide +kernel
theorem dX10_set_80 : decode cX10_set 80 = .ok (.aload_n 0, 1) := by decide +kernel
theorem dX10_set_81 : decode cX10_set 81 = .ok (.aload_n 0, 1) := by decide +kernel
theorem dX10_set_82 : decode cX10_set 82 = .ok (.getfield 7, 3) := by decide +kernel
theorem dX10_set_85 : decode cX10_set 85 = .ok (.invokevirtual 113, 3) := by decide +kernel
theorem dX10_set_88 : decode cX10_set 88 = .ok (.aload_n 0, 1) := by decide +kernel
theorem dX10_set_89 : decode cX10_set 89 = .ok (.getfield 7, 3) := by decide +kernel
theorem dX10_set_92 : decode cX10_set 92 = .ok (.bipush 9, 2) := by decide +kernel
theorem dX10_set_94 : decode cX10_set 94 = .ok (.iload_n 1, 1) := by decide +kernel
theorem dX10_set_95 : decode cX10_set 95 = .ok (.iadd, 1) := by decide +kernel
theorem dX10_set_96 : decode cX10_set 96 = .ok (.iload_n 2, 1) := by decide +kernel
theorem dX10_set_97 : decode cX10_set 97 = .ok (.iastore, 1) := by decide +kernel
theorem dX10_set_98 : decode cX10_set 98 = .ok (.iload 5, 2) := by decide +kernel
theorem dX10_set_100 : decode cX10_set 100 = .ok (.ireturn, 1) := by decide +kernel
theorem dX10_buys_0 : decode cX10_buys 0 = .ok (.aload_n 0, 1) := by decide +kernel
theorem dX10_buys_1 : decode cX10_buys 1 = .ok (.iload_n 1, 1) := by decide +kernel
theorem dX10_buys_2 : decode cX10_buys 2 = .ok (.invokevirtual 40, 3) := by decide +kernel
theorem dX10_buys_5 : decode cX10_buys 5 = .ok (.bipush 8, 2) := by decide +kernel
theorem dX10_buys_7 : decode cX10_buys 7 = .ok (.if_icmp .eq 16, 3) := by decide +kernel
theorem dX10_buys_10 : decode cX10_buys 10 = .ok (.aload_n 0, 1) := by decide +kernel
theorem dX10_buys_11 : decode cX10_buys 11 = .ok (.getfield 7, 3) := by decide +kernel
theorem dX10_buys_14 : decode cX10_buys 14 = .ok (.bipush 8, 2) := by decide +kernel
theorem dX10_buys_16 : decode cX10_buys 16 = .ok (.iaload, 1) := by decide +kernel
theorem dX10_buys_17 : decode cX10_buys 17 = .ok (.sipush 200, 3) := by decide +kernel
theorem dX10_buys_20 : decode cX10_buys 20 = .ok (.if_icmp .ne 6, 3) := by decide +kernel
theorem dX10_buys_23 : decode cX10_buys 23 = .ok (.bipush (-3), 2) := by decide +kernel
theorem dX10_buys_25 : decode cX10_buys 25 = .ok (.ireturn, 1) := by decide +kernel
theorem dX10_buys_26 : decode cX10_buys 26 = .ok (.aload_n 0, 1) := by decide +kernel
theorem dX10_buys_27 : decode cX10_buys 27 = .ok (.getfield 7, 3) := by decide +kernel
theorem dX10_buys_30 : decode cX10_buys 30 = .ok (.iconst 1, 1) := by decide +kernel
theorem dX10_buys_31 : decode cX10_buys 31 = .ok (.dup2, 1) := by decide +kernel
theorem dX10_buys_32 : decode cX10_buys 32 = .ok (.iaload, 1) := by decide +kernel
theorem dX10_buys_33 : decode cX10_buys 33 = .ok (.iload_n 3, 1) := by decide +kernel
theorem dX10_buys_34 : decode cX10_buys 34 = .ok (.iload 4, 2) := by decide +kernel
theorem dX10_buys_36 : decode cX10_buys 36 = .ok (.imul, 1) := by decide +kernel
theorem dX10_buys_37 : decode cX10_buys 37 = .ok (.iadd, 1) := by decide +kernel
theorem dX10_buys_38 : decode cX10_buys 38 = .ok (.iastore, 1) := by decide +kernel
theorem dX10_buys_39 : decode cX10_buys 39 = .ok (.aload_n 0, 1) := by decide +kernel
theorem dX10_buys_40 : decode cX10_buys 40 = .ok (.iload_n 1, 1) := by decide +kernel
theorem dX10_buys_41 : decode cX10_buys 41 = .ok (.iload_n 2, 1) := by decide +kernel
theorem dX10_buys_42 : decode cX10_buys 42 = .ok (.iload_n 3, 1) := by decide +kernel
theorem dX10_buys_43 : decode cX10_buys 43 = .ok (.iload 4, 2) := by decide +kernel
theorem dX10_buys_45 : decode cX10_buys 45 = .ok (.bipush (-5), 2) := by decide +kernel
theorem dX10_buys_47 : decode cX10_buys 47 = .ok (.invokevirtual 87, 3) := by decide +kernel
theorem dX10_buys_50 : decode cX10_buys 50 = .ok (.ireturn, 1) := by decide +kernel
theorem dX10_buy_0 : decode cX10_buy 0 = .ok (.iload_n 1, 1) := by decide +kernel
theorem dX10_buy_1 : decode cX10_buy 1 = .ok (.iconst 0, 1) := by decide +kernel
theorem dX10_buy_2 : decode cX10_buy 2 = .ok (.iconst 3, 1) := by decide +kernel
theorem dX10_buy_3 : decode cX10_buy 3 = .ok (.invokestatic 33, 3) := by decide +kernel
theorem dX10_buy_6 : decode cX10_buy 6 = .ok (.ifCond .eq 12, 3) := by decide +kernel
theorem dX10_buy_9 : decode cX10_buy 9 = .ok (.iload_n 2, 1) := by decide +kernel
theorem dX10_buy_10 : decode cX10_buy 10 = .ok (.iconst 0, 1) := by decide +kernel
theorem dX10_buy_11 : decode cX10_buy 11 = .ok (.iconst 2, 1) := by decide +kernel
theorem dX10_buy_12 : decode cX10_buy 12 = .ok (.invokestatic 33, 3) := by decide +kernel
theorem dX10_buy_15 : decode cX10_buy 15 = .ok (.ifCond .ne 5, 3) := by decide +kernel
theorem dX10_buy_18 : decode cX10_buy 18 = .ok (.iconst (-1), 1) := by decide +kernel
theorem dX10_buy_19 : decode cX10_buy 19 = .ok (.ireturn, 1) := by decide +kernel
theorem dX10_buy_20 : decode cX10_buy 20 = .ok (.iload_n 3, 1) := by decide +kernel
theorem dX10_buy_21 : decode cX10_buy 21 = .ok (.iconst 1, 1) := by decide +kernel
theorem dX10_buy_22 : decode cX10_buy 22 = .ok (.bipush 99, 2) := by decide +kernel
theorem dX10_buy_24 : decode cX10_buy 24 = .ok (.invokestatic 33, 3) := by decide +kernel
theorem dX10_buy_27 : decode cX10_buy 27 = .ok (.ifCond .eq 14, 3) := by decide +kernel
theorem dX10_buy_30 : decode cX10_buy 30 = .ok (.iload 4, 2) := by decide +kernel
theorem dX10_buy_32 : decode cX10_buy 32 = .ok (.iconst 1, 1) := by decide +kernel
theorem dX10_buy_33 : decode cX10_buy 33 = .ok (.bipush 99, 2) := by decide +kernel
theorem dX10_buy_35 : decode cX10_buy 35 = .ok (.invokestatic 33, 3) := by decide +kernel
theorem dX10_buy_38 : decode cX10_buy 38 = .ok (.ifCond .ne 6, 3) := by decide +kernel
theorem dX10_buy_41 : decode cX10_buy 41 = .ok (.bipush (-2), 2) := by decide +kernel
theorem dX10_buy_43 : decode cX10_buy 43 = .ok (.ireturn, 1) := by decide +kernel
theorem dX10_buy_44 : decode cX10_buy 44 = .ok (.aload_n 0, 1) := by decide +kernel
theorem dX10_buy_45 : decode cX10_buy 45 = .ok (.getfield 7, 3) := by decide +kernel
theorem dX10_buy_48 : decode cX10_buy 48 = .ok (.aload_n 0, 1) := by decide +kernel
theorem dX10_buy_49 : decode cX10_buy 49 = .ok (.getfield 13, 3) := by decide +kernel
theorem dX10_buy_52 : decode cX10_buy 52 = .ok (.invokestatic 117, 3) := by decide +kernel
theorem dX10_buy_55 : decode cX10_buy 55 = .ok (.aload_n 0, 1) := by decide +kernel
theorem dX10_buy_56 : decode cX10_buy 56 = .ok (.iload_n 1, 1) := by decide +kernel
theorem dX10_buy_57 : decode cX10_buy 57 = .ok (.iload_n 2, 1) := by decide +kernel
theorem dX10_buy_58 : decode cX10_buy 58 = .ok (.iload_n 3, 1) := by decide +kernel
theorem dX10_buy_59 : decode cX10_buy 59 = .ok (.iload 4, 2) := by decide +kernel
theorem dX10_buy_61 : decode cX10_buy 61 = .ok (.invokevirtual 121, 3) := by decide +kernel
theorem dX10_buy_64 : decode cX10_buy 64 = .ok (.istore 5, 2) := by decide +kernel
theorem dX10_buy_66 : decode cX10_buy 66 = .ok (.iload 5, 2) := by decide +kernel
theorem dX10_buy_68 : decode cX10_buy 68 = .ok (.ifCond .lt 11, 3) := by decide +kernel
theorem dX10_buy_71 : decode cX10_buy 71 = .ok (.aload_n 0, 1) := by decide +kernel
theorem dX10_buy_72 : decode cX10_buy 72 = .ok (.aload_n 0, 1) := by decide +kernel
theorem dX10_buy_73 : decode cX10_buy 73 = .ok (.getfield 13, 3) := by decide +kernel
theorem dX10_buy_76 : decode cX10_buy 76 = .ok (.invokevirtual 113, 3) := by decide +kernel
theorem dX10_buy_79 : decode cX10_buy 79 = .ok (.iload 5, 2) := by decide +kernel
theorem dX10_buy_81 : decode cX10_buy 81 = .ok (.ireturn, 1) := by decide +kernel
theorem dX10_move_0 : decode cX10_move 0 = .ok (.aload_n 0, 1) := by decide +kernel
theorem dX10_move_1 : decode cX10_move 1 = .ok (.iload_n 1, 1) := by decide +kernel
theorem dX10_move_2 : decode cX10_move 2 = .ok (.invokevirtual 124, 3) := by decide +kernel
theorem dX10_move_5 : decode cX10_move 5 = .ok (.ifCond .eq 12, 3) := by decide +kernel
theorem dX10_move_8 : decode cX10_move 8 = .ok (.iload_n 2, 1) := by decide +kernel
theorem dX10_move_9 : decode cX10_move 9 = .ok (.iconst 0, 1) := by decide +kernel
theorem dX10_move_10 : decode cX10_move 10 = .ok (.iconst 3, 1) := by decide +kernel
theorem dX10_move_11 : decode cX10_move 11 = .ok (.invokestatic 33, 3) := by decide +kernel
theorem dX10_move_14 : decode cX10_move 14 = .ok (.ifCond .ne 5, 3) := by decide +kernel
theorem dX10_move_17 : decode cX10_move 17 = .ok (.iconst (-1), 1) := by decide +kernel
theorem dX10_move_18 : decode cX10_move 18 = .ok (.ireturn, 1) := by decide +kernel
theorem dX10_move_19 : decode cX10_move 19 = .ok (.aload_n 0, 1) := by decide +kernel
theorem dX10_move_20 : decode cX10_move 20 = .ok (.iload_n 1, 1) := by decide +kernel
theorem dX10_move_21 : decode cX10_move 21 = .ok (.iconst 3, 1) := by decide +kernel
theorem dX10_move_22 : decode cX10_move 22 = .ok (.invokevirtual 29, 3) := by decide +kernel
theorem dX10_move_25 : decode cX10_move 25 = .ok (.iload_n 2, 1) := by decide +kernel
theorem dX10_move_26 : decode cX10_move 26 = .ok (.if_icmp .eq 16, 3) := by decide +kernel
theorem dX10_move_29 : decode cX10_move 29 = .ok (.aload_n 0, 1) := by decide +kernel
theorem dX10_move_30 : decode cX10_move 30 = .ok (.iload_n 2, 1) := by decide +kernel
theorem dX10_move_31 : decode cX10_move 31 = .ok (.invokevirtual 40, 3) := by decide +kernel
theorem dX10_move_34 : decode cX10_move 34 = .ok (.bipush 8, 2) := by decide +kernel
theorem dX10_move_36 : decode cX10_move 36 = .ok (.if_icmp .ne 6, 3) := by decide +kernel
theorem dX10_move_39 : decode cX10_move 39 = .ok (.bipush (-3), 2) := by decide +kernel
theorem dX10_move_41 : decode cX10_move 41 = .ok (.ireturn, 1) := by decide +kernel
theorem dX10_move_42 : decode cX10_move 42 = .ok (.aload_n 0, 1) := by decide +kernel
theorem dX10_move_43 : decode cX10_move 43 = .ok (.aload_n 0, 1) := by decide +kernel
theorem dX10_move_44 : decode cX10_move 44 = .ok (.getfield 7, 3) := by decide +kernel
theorem dX10_move_47 : decode cX10_move 47 = .ok (.invokevirtual 113, 3) := by decide +kernel
theorem dX10_move_50 : decode cX10_move 50 = .ok (.aload_n 0, 1) := by decide +kernel
theorem dX10_move_51 : decode cX10_move 51 = .ok (.getfield 7, 3) := by decide +kernel
theorem dX10_move_54 : decode cX10_move 54 = .ok (.bipush 6, 2) := by decide +kernel
theorem dX10_move_56 : decode cX10_move 56 = .ok (.iaload, 1) := by decide +kernel
theorem dX10_move_57 : decode cX10_move 57 = .ok (.istore_n 3, 1) := by decide +kernel
theorem dX10_move_58 : decode cX10_move 58 = .ok (.aload_n 0, 1) := by decide +kernel
theorem dX10_move_59 : decode cX10_move 59 = .ok (.iload_n 1, 1) := by decide +kernel
theorem dX10_move_60 : decode cX10_move 60 = .ok (.invokevirtual 84, 3) := by decide +kernel
theorem dX10_move_63 : decode cX10_move 63 = .ok (.ifCond .eq 9, 3) := by decide +kernel
theorem dX10_move_66 : decode cX10_move 66 = .ok (.aload_n 0, 1) := by decide +kernel
theorem dX10_move_67 : decode cX10_move 67 = .ok (.iload_n 2, 1) := by decide +kernel
theorem dX10_move_68 : decode cX10_move 68 = .ok (.iload_n 1, 1) := by decide +kernel
theorem dX10_move_69 : decode cX10_move 69 = .ok (.invokevirtual 44, 3) := by decide +kernel
theorem dX10_move_72 : decode cX10_move 72 = .ok (.aload_n 0, 1) := by decide +kernel
theorem dX10_move_73 : decode cX10_move 73 = .ok (.getfield 7, 3) := by decide +kernel
theorem dX10_move_76 : decode cX10_move 76 = .ok (.bipush 6, 2) := by decide +kernel
theorem dX10_move_78 : decode cX10_move 78 = .ok (.iaload, 1) := by decide +kernel
theorem dX10_move_79 : decode cX10_move 79 = .ok (.iload_n 3, 1) := by decide +kernel
theorem dX10_move_80 : decode cX10_move 80 = .ok (.isub, 1) := by decide +kernel
theorem dX10_move_81 : decode cX10_move 81 = .ok (.ireturn, 1) := by decide +kernel
theorem dX10_scrap_0 : decode cX10_scrap 0 = .ok (.aload_n 0, 1) := by decide +kernel
theorem dX10_scrap_1 : decode cX10_scrap 1 = .ok (.iload_n 1, 1) := by decide +kernel
theorem dX10_scrap_2 : decode cX10_scrap 2 = .ok (.invokevirtual 124, 3) := by decide +kernel
theorem dX10_scrap_5 : decode cX10_scrap 5 = .ok (.ifCond .ne 5, 3) := by decide +kernel
theorem dX10_scrap_8 : decode cX10_scrap 8 = .ok (.iconst (-1), 1) := by decide +kernel
theorem dX10_scrap_9 : decode cX10_scrap 9 = .ok (.ireturn, 1) := by decide +kernel
theorem dX10_scrap_10 : decode cX10_scrap 10 = .ok (.aload_n 0, 1) := by decide +kernel
theorem dX10_scrap_11 : decode cX10_scrap 11 = .ok (.aload_n 0, 1) := by decide +kernel
theorem dX10_scrap_12 : decode cX10_scrap 12 = .ok (.getfield 7, 3) := by decide +kernel
theorem dX10_scrap_15 : decode cX10_scrap 15 = .ok (.invokevirtual 113, 3) := by decide +kernel
theorem dX10_scrap_18 : decode cX10_scrap 18 = .ok (.aload_n 0, 1) := by decide +kernel
theorem dX10_scrap_19 : decode cX10_scrap 19 = .ok (.iload_n 1, 1) := by decide +kernel
theorem dX10_scrap_20 : decode cX10_scrap 20 = .ok (.invokevirtual 84, 3) := by decide +kernel
theorem dX10_scrap_23 : decode cX10_scrap 23 = .ok (.ifCond .eq 17, 3) := by decide +kernel
theorem dX10_scrap_26 : decode cX10_scrap 26 = .ok (.aload_n 0, 1) := by decide +kernel
theorem dX10_scrap_27 : decode cX10_scrap 27 = .ok (.getfield 7, 3) := by decide +kernel
theorem dX10_scrap_30 : decode cX10_scrap 30 = .ok (.iconst 3, 1) := by decide +kernel
theorem dX10_scrap_31 : decode cX10_scrap 31 = .ok (.dup2, 1) := by decide +kernel
theorem dX10_scrap_32 : decode cX10_scrap 32 = .ok (.iaload, 1) := by decide +kernel
theorem dX10_scrap_33 : decode cX10_scrap 33 = .ok (.aload_n 0, 1) := by decide +kernel
theorem dX10_scrap_34 : decode cX10_scrap 34 = .ok (.iload_n 1, 1) := by decide +kernel
theorem dX10_scrap_35 : decode cX10_scrap 35 = .ok (.invokevirtual 51, 3) := by decide +kernel
theorem dX10_scrap_38 : decode cX10_scrap 38 = .ok (.iadd, 1) := by decide +kernel
theorem dX10_scrap_39 : decode cX10_scrap 39 = .ok (.iastore, 1) := by decide +kernel
theorem dX10_scrap_40 : decode cX10_scrap 40 = .ok (.aload_n 0, 1) := by decide +kernel
theorem dX10_scrap_41 : decode cX10_scrap 41 = .ok (.iload_n 1, 1) := by decide +kernel
theorem dX10_scrap_42 : decode cX10_scrap 42 = .ok (.invokevirtual 51, 3) := by decide +kernel
theorem dX10_scrap_45 : decode cX10_scrap 45 = .ok (.ireturn, 1) := by decide +kernel
theorem dX10_orders_0 : decode cX10_orders 0 = .ok (.aload_n 0, 1) := by decide +kernel
theorem dX10_orders_1 : decode cX10_orders 1 = .ok (.getfield 7, 3) := by decide +kernel
theorem dX10_orders_4 : decode cX10_orders 4 = .ok (.bipush 7, 2) := by decide +kernel
theorem dX10_orders_6 : decode cX10_orders 6 = .ok (.iaload, 1) := by decide +kernel
theorem dX10_orders_7 : decode cX10_orders 7 = .ok (.istore 5, 2) := by decide +kernel
theorem dX10_orders_9 : decode cX10_orders 9 = .ok (.iload 5, 2) := by decide +kernel
theorem dX10_orders_11 : decode cX10_orders 11 = .ok (.bipush 12, 2) := by decide +kernel
theorem dX10_orders_13 : decode cX10_orders 13 = .ok (.if_icmp .ne 6, 3) := by decide +kernel
theorem dX10_orders_16 : decode cX10_orders 16 = .ok (.bipush (-3), 2) := by decide +kernel
theorem dX10_orders_18 : decode cX10_orders 18 = .ok (.ireturn, 1) := by decide +kernel
theorem dX10_orders_19 : decode cX10_orders 19 = .ok (.aload_n 0, 1) := by decide +kernel
theorem dX10_orders_20 : decode cX10_orders 20 = .ok (.getfield 7, 3) := by decide +kernel
theorem dX10_orders_23 : decode cX10_orders 23 = .ok (.bipush 7, 2) := by decide +kernel
theorem dX10_orders_25 : decode cX10_orders 25 = .ok (.iload 5, 2) := by decide +kernel
theorem dX10_orders_27 : decode cX10_orders 27 = .ok (.iconst 1, 1) := by decide +kernel
theorem dX10_orders_28 : decode cX10_orders 28 = .ok (.iadd, 1) := by decide +kernel
theorem dX10_orders_29 : decode cX10_orders 29 = .ok (.iastore, 1) := by decide +kernel
theorem dX10_orders_30 : decode cX10_orders 30 = .ok (.aload_n 0, 1) := by decide +kernel
theorem dX10_orders_31 : decode cX10_orders 31 = .ok (.getfield 7, 3) := by decide +kernel
theorem dX10_orders_34 : decode cX10_orders 34 = .ok (.sipush 1050, 3) := by decide +kernel
theorem dX10_orders_37 : decode cX10_orders 37 = .ok (.bipush 7, 2) := by decide +kernel
theorem dX10_orders_39 : decode cX10_orders 39 = .ok (.iload 5, 2) := by decide +kernel
theorem dX10_orders_41 : decode cX10_orders 41 = .ok (.imul, 1) := by decide +kernel
theorem dX10_orders_42 : decode cX10_orders 42 = .ok (.iadd, 1) := by decide +kernel
theorem dX10_orders_43 : decode cX10_orders 43 = .ok (.iconst 0, 1) := by decide +kernel
theorem dX10_orders_44 : decode cX10_orders 44 = .ok (.iadd, 1) := by decide +kernel
theorem dX10_orders_45 : decode cX10_orders 45 = .ok (.iload_n 1, 1) := by decide +kernel
theorem dX10_orders_46 : decode cX10_orders 46 = .ok (.iastore, 1) := by decide +kernel
theorem dX10_orders_47 : decode cX10_orders 47 = .ok (.aload_n 0, 1) := by decide +kernel
theorem dX10_orders_48 : decode cX10_orders 48 = .ok (.getfield 7, 3) := by decide +kernel
theorem dX10_orders_51 : decode cX10_orders 51 = .ok (.sipush 1050, 3) := by decide +kernel
theorem dX10_orders_54 : decode cX10_orders 54 = .ok (.bipush 7, 2) := by decide +kernel
theorem dX10_orders_56 : decode cX10_orders 56 = .ok (.iload 5, 2) := by decide +kernel
theorem dX10_orders_58 : decode cX10_orders 58 = .ok (.imul, 1) := by decide +kernel
theorem dX10_orders_59 : decode cX10_orders 59 = .ok (.iadd, 1) := by decide +kernel
theorem dX10_orders_60 : decode cX10_orders 60 = .ok (.iconst 1, 1) := by decide +kernel
theorem dX10_orders_61 : decode cX10_orders 61 = .ok (.iadd, 1) := by decide +kernel
theorem dX10_orders_62 : decode cX10_orders 62 = .ok (.iload_n 2, 1) := by decide +kernel
theorem dX10_orders_63 : decode cX10_orders 63 = .ok (.iastore, 1) := by decide +kernel
theorem dX10_orders_64 : decode cX10_orders 64 = .ok (.aload_n 0, 1) := by decide +kernel
theorem dX10_orders_65 : decode cX10_orders 65 = .ok (.getfield 7, 3) := by decide +kernel
theorem dX10_orders_68 : decode cX10_orders 68 = .ok (.sipush 1050, 3) := by decide +kernel
theorem dX10_orders_71 : decode cX10_orders 71 = .ok (.bipush 7, 2) := by decide +kernel
theorem dX10_orders_73 : decode cX10_orders 73 = .ok (.iload 5, 2) := by decide +kernel
theorem dX10_orders_75 : decode cX10_orders 75 = .ok (.imul, 1) := by decide +kernel
theorem dX10_orders_76 : decode cX10_orders 76 = .ok (.iadd, 1) := by decide +kernel
theorem dX10_orders_77 : decode cX10_orders 77 = .ok (.iconst 2, 1) := by decide +kernel
theorem dX10_orders_78 : decode cX10_orders 78 = .ok (.iadd, 1) := by decide +kernel
theorem dX10_orders_79 : decode cX10_orders 79 = .ok (.iload_n 3, 1) := by decide +kernel
theorem dX10_orders_80 : decode cX10_orders 80 = .ok (.iastore, 1) := by decide +kernel
theorem dX10_orders_81 : decode cX10_orders 81 = .ok (.aload_n 0, 1) := by decide +kernel
theorem dX10_orders_82 : decode cX10_orders 82 = .ok (.getfield 7, 3) := by decide +kernel
theorem dX10_orders_85 : decode cX10_orders 85 = .ok (.sipush 1050, 3) := by decide +kernel
theorem dX10_orders_88 : decode cX10_orders 88 = .ok (.bipush 7, 2) := by decide +kernel
theorem dX10_orders_90 : decode cX10_orders 90 = .ok (.iload 5, 2) := by decide +kernel
theorem dX10_orders_92 : decode cX10_orders 92 = .ok (.imul, 1) := by decide +kernel
theorem dX10_orders_93 : decode cX10_orders 93 = .ok (.iadd, 1) := by decide +kernel
theorem dX10_orders_94 : decode cX10_orders 94 = .ok (.iconst 3, 1) := by decide +kernel
theorem dX10_orders_95 : decode cX10_orders 95 = .ok (.iadd, 1) := by decide +kernel
theorem dX10_orders_96 : decode cX10_orders 96 = .ok (.iload 4, 2) := by decide +kernel
theorem dX10_orders_98 : decode cX10_orders 98 = .ok (.iastore, 1) := by decide +kernel
theorem dX10_orders_99 : decode cX10_orders 99 = .ok (.iload 5, 2) := by decide +kernel
theorem dX10_orders_101 : decode cX10_orders 101 = .ok (.ireturn, 1) := by decide +kernel
theorem dX10_order_0 : decode cX10_order 0 = .ok (.iload_n 1, 1) := by decide +kernel
theorem dX10_order_1 : decode cX10_order 1 = .ok (.iconst 0, 1) := by decide +kernel
theorem dX10_order_2 : decode cX10_order 2 = .ok (.iconst 2, 1) := by decide +kernel
theorem dX10_order_3 : decode cX10_order 3 = .ok (.invokestatic 33, 3) := by decide +kernel
theorem dX10_order_6 : decode cX10_order 6 = .ok (.ifCond .ne 5, 3) := by decide +kernel
theorem dX10_order_9 : decode cX10_order 9 = .ok (.iconst (-1), 1) := by decide +kernel
theorem dX10_order_10 : decode cX10_order 10 = .ok (.ireturn, 1) := by decide +kernel
theorem dX10_order_11 : decode cX10_order 11 = .ok (.iload_n 2, 1) := by decide +kernel
theorem dX10_order_12 : decode cX10_order 12 = .ok (.iconst 1, 1) := by decide +kernel
theorem dX10_order_13 : decode cX10_order 13 = .ok (.bipush 99, 2) := by decide +kernel
theorem dX10_order_15 : decode cX10_order 15 = .ok (.invokestatic 33, 3) := by decide +kernel
theorem dX10_order_18 : decode cX10_order 18 = .ok (.ifCond .eq 25, 3) := by decide +kernel
theorem dX10_order_21 : decode cX10_order 21 = .ok (.iload_n 3, 1) := by decide +kernel
theorem dX10_order_22 : decode cX10_order 22 = .ok (.iconst 1, 1) := by decide +kernel
theorem dX10_order_23 : decode cX10_order 23 = .ok (.bipush 99, 2) := by decide +kernel
theorem dX10_order_25 : decode cX10_order 25 = .ok (.invokestatic 33, 3) := by decide +kernel
theorem dX10_order_28 : decode cX10_order 28 = .ok (.ifCond .eq 15, 3) := by decide +kernel
theorem dX10_order_31 : decode cX10_order 31 = .ok (.iload 4, 2) := by decide +kernel
theorem dX10_order_33 : decode cX10_order 33 = .ok (.iconst 0, 1) := by decide +kernel
theorem dX10_order_34 : decode cX10_order 34 = .ok (.sipush 999, 3) := by decide +kernel
theorem dX10_order_37 : decode cX10_order 37 = .ok (.invokestatic 33, 3) := by decide +kernel
theorem dX10_order_40 : decode cX10_order 40 = .ok (.ifCond .ne 6, 3) := by decide +kernel
theorem dX10_order_43 : decode cX10_order 43 = .ok (.bipush (-2), 2) := by decide +kernel
theorem dX10_order_45 : decode cX10_order 45 = .ok (.ireturn, 1) := by decide +kernel
theorem dX10_order_46 : decode cX10_order 46 = .ok (.aload_n 0, 1) := by decide +kernel
theorem dX10_order_47 : decode cX10_order 47 = .ok (.getfield 7, 3) := by decide +kernel
theorem dX10_order_50 : decode cX10_order 50 = .ok (.aload_n 0, 1) := by decide +kernel
theorem dX10_order_51 : decode cX10_order 51 = .ok (.getfield 13, 3) := by decide +kernel
theorem dX10_order_54 : decode cX10_order 54 = .ok (.invokestatic 117, 3) := by decide +kernel
theorem dX10_order_57 : decode cX10_order 57 = .ok (.aload_n 0, 1) := by decide +kernel
theorem dX10_order_58 : decode cX10_order 58 = .ok (.iload_n 1, 1) := by decide +kernel
theorem dX10_order_59 : decode cX10_order 59 = .ok (.iload_n 2, 1) := by decide +kernel
theorem dX10_order_60 : decode cX10_order 60 = .ok (.iload_n 3, 1) := by decide +kernel
theorem dX10_order_61 : decode cX10_order 61 = .ok (.iload 4, 2) := by decide +kernel
theorem dX10_order_63 : decode cX10_order 63 = .ok (.invokevirtual 127, 3) := by decide +kernel
theorem dX10_order_66 : decode cX10_order 66 = .ok (.istore 5, 2) := by decide +kernel
theorem dX10_order_68 : decode cX10_order 68 = .ok (.iload 5, 2) := by decide +kernel
theorem dX10_order_70 : decode cX10_order 70 = .ok (.ifCond .lt 11, 3) := by decide +kernel
theorem dX10_order_73 : decode cX10_order 73 = .ok (.aload_n 0, 1) := by decide +kernel
theorem dX10_order_74 : decode cX10_order 74 = .ok (.aload_n 0, 1) := by decide +kernel
theorem dX10_order_75 : decode cX10_order 75 = .ok (.getfield 13, 3) := by decide +kernel
theorem dX10_order_78 : decode cX10_order 78 = .ok (.invokevirtual 113, 3) := by decide +kernel
theorem dX10_order_81 : decode cX10_order 81 = .ok (.iload 5, 2) := by decide +kernel
theorem dX10_order_83 : decode cX10_order 83 = .ok (.ireturn, 1) := by decide +kernel
theorem dX10_cancel_0 : decode cX10_cancel 0 = .ok (.aload_n 0, 1) := by decide +kernel
theorem dX10_cancel_1 : decode cX10_cancel 1 = .ok (.iload_n 1, 1) := by decide +kernel
theorem dX10_cancel_2 : decode cX10_cancel 2 = .ok (.invokevirtual 130, 3) := by decide +kernel
theorem dX10_cancel_5 : decode cX10_cancel 5 = .ok (.ifCond .ne 5, 3) := by decide +kernel
theorem dX10_cancel_8 : decode cX10_cancel 8 = .ok (.iconst (-1), 1) := by decide +kernel
theorem dX10_cancel_9 : decode cX10_cancel 9 = .ok (.ireturn, 1) := by decide +kernel
theorem dX10_cancel_10 : decode cX10_cancel 10 = .ok (.aload_n 0, 1) := by decide +kernel
theorem dX10_cancel_11 : decode cX10_cancel 11 = .ok (.iload_n 1, 1) := by decide +kernel
theorem dX10_cancel_12 : decode cX10_cancel 12 = .ok (.invokevirtual 64, 3) := by decide +kernel
theorem dX10_cancel_15 : decode cX10_cancel 15 = .ok (.ifCond .ne 6, 3) := by decide +kernel
theorem dX10_cancel_18 : decode cX10_cancel 18 = .ok (.bipush (-4), 2) := by decide +kernel
theorem dX10_cancel_20 : decode cX10_cancel 20 = .ok (.ireturn, 1) := by decide +kernel
theorem dX10_cancel_21 : decode cX10_cancel 21 = .ok (.aload_n 0, 1) := by decide +kernel
theorem dX10_cancel_22 : decode cX10_cancel 22 = .ok (.aload_n 0, 1) := by decide +kernel
theorem dX10_cancel_23 : decode cX10_cancel 23 = .ok (.getfield 7, 3) := by decide +kernel
theorem dX10_cancel_26 : decode cX10_cancel 26 = .ok (.invokevirtual 113, 3) := by decide +kernel
theorem dX10_cancel_29 : decode cX10_cancel 29 = .ok (.aload_n 0, 1) := by decide +kernel
theorem dX10_cancel_30 : decode cX10_cancel 30 = .ok (.getfield 7, 3) := by decide +kernel
theorem dX10_cancel_33 : decode cX10_cancel 33 = .ok (.sipush 1050, 3) := by decide +kernel
theorem dX10_cancel_36 : decode cX10_cancel 36 = .ok (.bipush 7, 2) := by decide +kernel
theorem dX10_cancel_38 : decode cX10_cancel 38 = .ok (.iload_n 1, 1) := by decide +kernel
theorem dX10_cancel_39 : decode cX10_cancel 39 = .ok (.imul, 1) := by decide +kernel
theorem dX10_cancel_40 : decode cX10_cancel 40 = .ok (.iadd, 1) := by decide +kernel
theorem dX10_cancel_41 : decode cX10_cancel 41 = .ok (.iconst 4, 1) := by decide +kernel
theorem dX10_cancel_42 : decode cX10_cancel 42 = .ok (.iadd, 1) := by decide +kernel
theorem dX10_cancel_43 : decode cX10_cancel 43 = .ok (.iconst 2, 1) := by decide +kernel
theorem dX10_cancel_44 : decode cX10_cancel 44 = .ok (.iastore, 1) := by decide +kernel
theorem dX10_cancel_45 : decode cX10_cancel 45 = .ok (.aload_n 0, 1) := by decide +kernel
theorem dX10_cancel_46 : decode cX10_cancel 46 = .ok (.invokevirtual 133, 3) := by decide +kernel
theorem dX10_cancel_49 : decode cX10_cancel 49 = .ok (.ireturn, 1) := by decide +kernel
theorem dX10_cut_0 : decode cX10_cut 0 = .ok (.aload_n 0, 1) := by decide +kernel
theorem dX10_cut_1 : decode cX10_cut 1 = .ok (.iload_n 1, 1) := by decide +kernel
theorem dX10_cut_2 : decode cX10_cut 2 = .ok (.invokevirtual 130, 3) := by decide +kernel
theorem dX10_cut_5 : decode cX10_cut 5 = .ok (.ifCond .eq 11, 3) := by decide +kernel
theorem dX10_cut_8 : decode cX10_cut 8 = .ok (.aload_n 0, 1) := by decide +kernel
theorem dX10_cut_9 : decode cX10_cut 9 = .ok (.iload_n 2, 1) := by decide +kernel
theorem dX10_cut_10 : decode cX10_cut 10 = .ok (.invokevirtual 124, 3) := by decide +kernel
theorem dX10_cut_13 : decode cX10_cut 13 = .ok (.ifCond .ne 5, 3) := by decide +kernel
theorem dX10_cut_16 : decode cX10_cut 16 = .ok (.iconst (-1), 1) := by decide +kernel
theorem dX10_cut_17 : decode cX10_cut 17 = .ok (.ireturn, 1) := by decide +kernel
theorem dX10_cut_18 : decode cX10_cut 18 = .ok (.aload_n 0, 1) := by decide +kernel
theorem dX10_cut_19 : decode cX10_cut 19 = .ok (.iload_n 1, 1) := by decide +kernel
theorem dX10_cut_20 : decode cX10_cut 20 = .ok (.invokevirtual 64, 3) := by decide +kernel
theorem dX10_cut_23 : decode cX10_cut 23 = .ok (.ifCond .eq 12, 3) := by decide +kernel
theorem dX10_cut_26 : decode cX10_cut 26 = .ok (.aload_n 0, 1) := by decide +kernel
theorem dX10_cut_27 : decode cX10_cut 27 = .ok (.iload_n 1, 1) := by decide +kernel
theorem dX10_cut_28 : decode cX10_cut 28 = .ok (.iload_n 2, 1) := by decide +kernel
theorem dX10_cut_29 : decode cX10_cut 29 = .ok (.invokevirtual 67, 3) := by decide +kernel
theorem dX10_cut_32 : decode cX10_cut 32 = .ok (.ifCond .ge 6, 3) := by decide +kernel
theorem dX10_cut_35 : decode cX10_cut 35 = .ok (.bipush (-4), 2) := by decide +kernel
theorem dX10_cut_37 : decode cX10_cut 37 = .ok (.ireturn, 1) := by decide +kernel
theorem dX10_cut_38 : decode cX10_cut 38 = .ok (.aload_n 0, 1) := by decide +kernel
theorem dX10_cut_39 : decode cX10_cut 39 = .ok (.aload_n 0, 1) := by decide +kernel
theorem dX10_cut_40 : decode cX10_cut 40 = .ok (.getfield 7, 3) := by decide +kernel
theorem dX10_cut_43 : decode cX10_cut 43 = .ok (.invokevirtual 113, 3) := by decide +kernel
theorem dX10_cut_46 : decode cX10_cut 46 = .ok (.aload_n 0, 1) := by decide +kernel
theorem dX10_cut_47 : decode cX10_cut 47 = .ok (.iload_n 1, 1) := by decide +kernel
theorem dX10_cut_48 : decode cX10_cut 48 = .ok (.iload_n 2, 1) := by decide +kernel
theorem dX10_cut_49 : decode cX10_cut 49 = .ok (.invokevirtual 110, 3) := by decide +kernel
theorem dX10_cut_52 : decode cX10_cut 52 = .ok (.ireturn, 1) := by decide +kernel
theorem dX10_plan_0 : decode cX10_plan 0 = .ok (.iload_n 1, 1) := by decide +kernel
theorem dX10_plan_1 : decode cX10_plan 1 = .ok (.iconst 0, 1) := by decide +kernel
theorem dX10_plan_2 : decode cX10_plan 2 = .ok (.iconst 2, 1) := by decide +kernel
theorem dX10_plan_3 : decode cX10_plan 3 = .ok (.invokestatic 33, 3) := by decide +kernel
theorem dX10_plan_6 : decode cX10_plan 6 = .ok (.ifCond .ne 6, 3) := by decide +kernel
theorem dX10_plan_9 : decode cX10_plan 9 = .ok (.bipush (-2), 2) := by decide +kernel
theorem dX10_plan_11 : decode cX10_plan 11 = .ok (.ireturn, 1) := by decide +kernel
theorem dX10_plan_12 : decode cX10_plan 12 = .ok (.aload_n 0, 1) := by decide +kernel
theorem dX10_plan_13 : decode cX10_plan 13 = .ok (.invokevirtual 133, 3) := by decide +kernel
theorem dX10_plan_16 : decode cX10_plan 16 = .ok (.ifCond .ne 6, 3) := by decide +kernel
theorem dX10_plan_19 : decode cX10_plan 19 = .ok (.bipush (-5), 2) := by decide +kernel
theorem dX10_plan_21 : decode cX10_plan 21 = .ok (.ireturn, 1) := by decide +kernel
theorem dX10_plan_22 : decode cX10_plan 22 = .ok (.aload_n 0, 1) := by decide +kernel
theorem dX10_plan_23 : decode cX10_plan 23 = .ok (.aload_n 0, 1) := by decide +kernel
theorem dX10_plan_24 : decode cX10_plan 24 = .ok (.getfield 7, 3) := by decide +kernel
theorem dX10_plan_27 : decode cX10_plan 27 = .ok (.invokevirtual 113, 3) := by decide +kernel
theorem dX10_plan_30 : decode cX10_plan 30 = .ok (.aload_n 0, 1) := by decide +kernel
theorem dX10_plan_31 : decode cX10_plan 31 = .ok (.iload_n 1, 1) := by decide +kernel
theorem dX10_plan_32 : decode cX10_plan 32 = .ok (.invokevirtual 137, 3) := by decide +kernel
theorem dX10_plan_35 : decode cX10_plan 35 = .ok (.ireturn, 1) := by decide +kernel
theorem dX10_passes_0 : decode cX10_passes 0 = .ok (.aload_n 0, 1) := by decide +kernel
theorem dX10_passes_1 : decode cX10_passes 1 = .ok (.getfield 7, 3) := by decide +kernel
theorem dX10_passes_4 : decode cX10_passes 4 = .ok (.iconst 0, 1) := by decide +kernel
theorem dX10_passes_5 : decode cX10_passes 5 = .ok (.iaload, 1) := by decide +kernel
theorem dX10_passes_6 : decode cX10_passes 6 = .ok (.iload_n 1, 1) := by decide +kernel
theorem dX10_passes_7 : decode cX10_passes 7 = .ok (.iadd, 1) := by decide +kernel
theorem dX10_passes_8 : decode cX10_passes 8 = .ok (.sipush 999, 3) := by decide +kernel
theorem dX10_passes_11 : decode cX10_passes 11 = .ok (.if_icmp .le 6, 3) := by decide +kernel
theorem dX10_passes_14 : decode cX10_passes 14 = .ok (.bipush (-3), 2) := by decide +kernel
theorem dX10_passes_16 : decode cX10_passes 16 = .ok (.ireturn, 1) := by decide +kernel
theorem dX10_passes_17 : decode cX10_passes 17 = .ok (.aload_n 0, 1) := by decide +kernel
theorem dX10_passes_18 : decode cX10_passes 18 = .ok (.invokevirtual 140, 3) := by decide +kernel
theorem dX10_passes_21 : decode cX10_passes 21 = .ok (.istore_n 2, 1) := by decide +kernel
theorem dX10_passes_22 : decode cX10_passes 22 = .ok (.aload_n 0, 1) := by decide +kernel
theorem dX10_passes_23 : decode cX10_passes 23 = .ok (.getfield 7, 3) := by decide +kernel
theorem dX10_passes_26 : decode cX10_passes 26 = .ok (.iconst 0, 1) := by decide +kernel
theorem dX10_passes_27 : decode cX10_passes 27 = .ok (.dup2, 1) := by decide +kernel
theorem dX10_passes_28 : decode cX10_passes 28 = .ok (.iaload, 1) := by decide +kernel
theorem dX10_passes_29 : decode cX10_passes 29 = .ok (.iload_n 1, 1) := by decide +kernel
theorem dX10_passes_30 : decode cX10_passes 30 = .ok (.iadd, 1) := by decide +kernel
theorem dX10_passes_31 : decode cX10_passes 31 = .ok (.iastore, 1) := by decide +kernel
theorem dX10_passes_32 : decode cX10_passes 32 = .ok (.aload_n 0, 1) := by decide +kernel
theorem dX10_passes_33 : decode cX10_passes 33 = .ok (.invokevirtual 140, 3) := by decide +kernel
theorem dX10_passes_36 : decode cX10_passes 36 = .ok (.iload_n 2, 1) := by decide +kernel
theorem dX10_passes_37 : decode cX10_passes 37 = .ok (.isub, 1) := by decide +kernel
theorem dX10_passes_38 : decode cX10_passes 38 = .ok (.ireturn, 1) := by decide +kernel
theorem dX10_pass_0 : decode cX10_pass 0 = .ok (.iload_n 1, 1) := by decide +kernel
theorem dX10_pass_1 : decode cX10_pass 1 = .ok (.iconst 1, 1) := by decide +kernel
theorem dX10_pass_2 : decode cX10_pass 2 = .ok (.bipush 99, 2) := by decide +kernel
theorem dX10_pass_4 : decode cX10_pass 4 = .ok (.invokestatic 33, 3) := by decide +kernel
theorem dX10_pass_7 : decode cX10_pass 7 = .ok (.ifCond .ne 6, 3) := by decide +kernel
theorem dX10_pass_10 : decode cX10_pass 10 = .ok (.bipush (-2), 2) := by decide +kernel
theorem dX10_pass_12 : decode cX10_pass 12 = .ok (.ireturn, 1) := by decide +kernel
theorem dX10_pass_13 : decode cX10_pass 13 = .ok (.aload_n 0, 1) := by decide +kernel
theorem dX10_pass_14 : decode cX10_pass 14 = .ok (.getfield 7, 3) := by decide +kernel
theorem dX10_pass_17 : decode cX10_pass 17 = .ok (.aload_n 0, 1) := by decide +kernel
theorem dX10_pass_18 : decode cX10_pass 18 = .ok (.getfield 13, 3) := by decide +kernel
theorem dX10_pass_21 : decode cX10_pass 21 = .ok (.invokestatic 117, 3) := by decide +kernel
theorem dX10_pass_24 : decode cX10_pass 24 = .ok (.aload_n 0, 1) := by decide +kernel
theorem dX10_pass_25 : decode cX10_pass 25 = .ok (.iload_n 1, 1) := by decide +kernel
theorem dX10_pass_26 : decode cX10_pass 26 = .ok (.invokevirtual 143, 3) := by decide +kernel
theorem dX10_pass_29 : decode cX10_pass 29 = .ok (.istore_n 2, 1) := by decide +kernel
theorem dX10_pass_30 : decode cX10_pass 30 = .ok (.iload_n 2, 1) := by decide +kernel
theorem dX10_pass_31 : decode cX10_pass 31 = .ok (.ifCond .lt 11, 3) := by decide +kernel
theorem dX10_pass_34 : decode cX10_pass 34 = .ok (.aload_n 0, 1) := by decide +kernel
theorem dX10_pass_35 : decode cX10_pass 35 = .ok (.aload_n 0, 1) := by decide +kernel
theorem dX10_pass_36 : decode cX10_pass 36 = .ok (.getfield 13, 3) := by decide +kernel
theorem dX10_pass_39 : decode cX10_pass 39 = .ok (.invokevirtual 113, 3) := by decide +kernel
theorem dX10_pass_42 : decode cX10_pass 42 = .ok (.iload_n 2, 1) := by decide +kernel
theorem dX10_pass_43 : decode cX10_pass 43 = .ok (.ireturn, 1) := by decide +kernel
theorem dX10_stands_0 : decode cX10_stands 0 = .ok (.aload_n 0, 1) := by decide +kernel
theorem dX10_stands_1 : decode cX10_stands 1 = .ok (.getfield 146, 3) := by decide +kernel
theorem dX10_stands_4 : decode cX10_stands 4 = .ok (.aload_n 0, 1) := by decide +kernel
theorem dX10_stands_5 : decode cX10_stands 5 = .ok (.getfield 149, 3) := by decide +kernel
theorem dX10_stands_8 : decode cX10_stands 8 = .ok (.if_icmp .ge 20, 3) := by decide +kernel
theorem dX10_stands_11 : decode cX10_stands 11 = .ok (.aload_n 0, 1) := by decide +kernel
theorem dX10_stands_12 : decode cX10_stands 12 = .ok (.getfield 22, 3) := by decide +kernel
theorem dX10_stands_15 : decode cX10_stands 15 = .ok (.aload_n 0, 1) := by decide +kernel
theorem dX10_stands_16 : decode cX10_stands 16 = .ok (.getfield 146, 3) := by decide +kernel
theorem dX10_stands_19 : decode cX10_stands 19 = .ok (.iaload, 1) := by decide +kernel
theorem dX10_stands_20 : decode cX10_stands 20 = .ok (.iload_n 1, 1) := by decide +kernel
theorem dX10_stands_21 : decode cX10_stands 21 = .ok (.if_icmp .ne 7, 3) := by decide +kernel
theorem dX10_stands_24 : decode cX10_stands 24 = .ok (.iconst 1, 1) := by decide +kernel
theorem dX10_stands_25 : decode cX10_stands 25 = .ok (.goto 4, 3) := by decide +kernel
theorem dX10_stands_28 : decode cX10_stands 28 = .ok (.iconst 0, 1) := by decide +kernel
theorem dX10_stands_29 : decode cX10_stands 29 = .ok (.istore_n 2, 1) := by decide +kernel
theorem dX10_stands_30 : decode cX10_stands 30 = .ok (.aload_n 0, 1) := by decide +kernel
theorem dX10_stands_31 : decode cX10_stands 31 = .ok (.dup, 1) := by decide +kernel
