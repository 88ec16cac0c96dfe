theorem dX9_pass_12 : decode cX9_pass 12 = .ok (.aload_n 0, 1) := by decide +kernel
theorem dX9_pass_13 : decode cX9_pass 13 = .ok (.getfield 12, 3) := by decide +kernel
theorem dX9_pass_16 : decode cX9_pass 16 = .ok (.iload_n 1, 1) := by decide +kernel
theorem dX9_pass_17 : decode cX9_pass 17 = .ok (.invokevirtual 80, 3) := by decide +kernel
theorem dX9_pass_20 : decode cX9_pass 20 = .ok (.invokevirtual 54, 3) := by decide +kernel
theorem dX9_pass_23 : decode cX9_pass 23 = .ok (.ireturn, 1) := by decide +kernel
theorem dX9_perform_0 : decode cX9_perform 0 = .ok (.aload_n 0, 1) := by decide +kernel
theorem dX9_perform_1 : decode cX9_perform 1 = .ok (.getfield 36, 3) := by decide +kernel
theorem dX9_perform_4 : decode cX9_perform 4 = .ok (.invokevirtual 83, 3) := by decide +kernel
theorem dX9_perform_7 : decode cX9_perform 7 = .ok (.istore_n 1, 1) := by decide +kernel
theorem dX9_perform_8 : decode cX9_perform 8 = .ok (.iload_n 1, 1) := by decide +kernel
theorem dX9_perform_9 : decode cX9_perform 9 = .ok (.ifCond .ge 5, 3) := by decide +kernel
theorem dX9_perform_12 : decode cX9_perform 12 = .ok (.iload_n 1, 1) := by decide +kernel
theorem dX9_perform_13 : decode cX9_perform 13 = .ok (.ireturn, 1) := by decide +kernel
theorem dX9_perform_14 : decode cX9_perform 14 = .ok (.aload_n 0, 1) := by decide +kernel
theorem dX9_perform_15 : decode cX9_perform 15 = .ok (.getfield 16, 3) := by decide +kernel
theorem dX9_perform_18 : decode cX9_perform 18 = .ok (.aload_n 0, 1) := by decide +kernel
theorem dX9_perform_19 : decode cX9_perform 19 = .ok (.getfield 12, 3) := by decide +kernel
theorem dX9_perform_22 : decode cX9_perform 22 = .ok (.invokevirtual 40, 3) := by decide +kernel
theorem dX9_perform_25 : decode cX9_perform 25 = .ok (.aload_n 0, 1) := by decide +kernel
theorem dX9_perform_26 : decode cX9_perform 26 = .ok (.getfield 36, 3) := by decide +kernel
theorem dX9_perform_29 : decode cX9_perform 29 = .ok (.invokevirtual 87, 3) := by decide +kernel
theorem dX9_perform_32 : decode cX9_perform 32 = .ok (.iconst 0, 1) := by decide +kernel
theorem dX9_perform_33 : decode cX9_perform 33 = .ok (.istore_n 2, 1) := by decide +kernel
theorem dX9_perform_34 : decode cX9_perform 34 = .ok (.iload_n 2, 1) := by decide +kernel
theorem dX9_perform_35 : decode cX9_perform 35 = .ok (.iload_n 1, 1) := by decide +kernel
theorem dX9_perform_36 : decode cX9_perform 36 = .ok (.if_icmp .ge 44, 3) := by decide +kernel
theorem dX9_perform_39 : decode cX9_perform 39 = .ok (.aload_n 0, 1) := by decide +kernel
theorem dX9_perform_40 : decode cX9_perform 40 = .ok (.getfield 36, 3) := by decide +kernel
theorem dX9_perform_43 : decode cX9_perform 43 = .ok (.invokevirtual 90, 3) := by decide +kernel
theorem dX9_perform_46 : decode cX9_perform 46 = .ok (.aload_n 0, 1) := by decide +kernel
theorem dX9_perform_47 : decode cX9_perform 47 = .ok (.invokevirtual 93, 3) := by decide +kernel
theorem dX9_perform_50 : decode cX9_perform 50 = .ok (.istore_n 3, 1) := by decide +kernel
theorem dX9_perform_51 : decode cX9_perform 51 = .ok (.iload_n 3, 1) := by decide +kernel
theorem dX9_perform_52 : decode cX9_perform 52 = .ok (.ifCond .ge 22, 3) := by decide +kernel
theorem dX9_perform_55 : decode cX9_perform 55 = .ok (.iload_n 3, 1) := by decide +kernel
theorem dX9_perform_56 : decode cX9_perform 56 = .ok (.bipush (-5), 2) := by decide +kernel
theorem dX9_perform_58 : decode cX9_perform 58 = .ok (.if_icmp .eq 16, 3) := by decide +kernel
theorem dX9_perform_61 : decode cX9_perform 61 = .ok (.aload_n 0, 1) := by decide +kernel
theorem dX9_perform_62 : decode cX9_perform 62 = .ok (.getfield 12, 3) := by decide +kernel
theorem dX9_perform_65 : decode cX9_perform 65 = .ok (.aload_n 0, 1) := by decide +kernel
theorem dX9_perform_66 : decode cX9_perform 66 = .ok (.getfield 16, 3) := by decide +kernel
theorem dX9_perform_69 : decode cX9_perform 69 = .ok (.invokevirtual 40, 3) := by decide +kernel
theorem dX9_perform_72 : decode cX9_perform 72 = .ok (.iload_n 3, 1) := by decide +kernel
theorem dX9_perform_73 : decode cX9_perform 73 = .ok (.ireturn, 1) := by decide +kernel
theorem dX9_perform_74 : decode cX9_perform 74 = .ok (.iinc 2 1, 3) := by decide +kernel
theorem dX9_perform_77 : decode cX9_perform 77 = .ok (.goto (-43), 3) := by decide +kernel
theorem dX9_perform_80 : decode cX9_perform 80 = .ok (.aload_n 0, 1) := by decide +kernel
theorem dX9_perform_81 : decode cX9_perform 81 = .ok (.iload_n 1, 1) := by decide +kernel
theorem dX9_perform_82 : decode cX9_perform 82 = .ok (.invokevirtual 54, 3) := by decide +kernel
theorem dX9_perform_85 : decode cX9_perform 85 = .ok (.ireturn, 1) := by decide +kernel
theorem dX9_undo_0 : decode cX9_undo 0 = .ok (.aload_n 0, 1) := by decide +kernel
theorem dX9_undo_1 : decode cX9_undo 1 = .ok (.getfield 29, 3) := by decide +kernel
theorem dX9_undo_4 : decode cX9_undo 4 = .ok (.aload_n 0, 1) := by decide +kernel
theorem dX9_undo_5 : decode cX9_undo 5 = .ok (.getfield 12, 3) := by decide +kernel
theorem dX9_undo_8 : decode cX9_undo 8 = .ok (.invokevirtual 103, 3) := by decide +kernel
theorem dX9_undo_11 : decode cX9_undo 11 = .ok (.ireturn, 1) := by decide +kernel
theorem dX9_restore_0 : decode cX9_restore 0 = .ok (.aload_n 0, 1) := by decide +kernel
theorem dX9_restore_1 : decode cX9_restore 1 = .ok (.getfield 22, 3) := by decide +kernel
theorem dX9_restore_4 : decode cX9_restore 4 = .ok (.ifCond .ne 6, 3) := by decide +kernel
theorem dX9_restore_7 : decode cX9_restore 7 = .ok (.bipush (-5), 2) := by decide +kernel
theorem dX9_restore_9 : decode cX9_restore 9 = .ok (.ireturn, 1) := by decide +kernel
theorem dX9_restore_10 : decode cX9_restore 10 = .ok (.aload_n 0, 1) := by decide +kernel
theorem dX9_restore_11 : decode cX9_restore 11 = .ok (.getfield 16, 3) := by decide +kernel
theorem dX9_restore_14 : decode cX9_restore 14 = .ok (.aload_n 0, 1) := by decide +kernel
theorem dX9_restore_15 : decode cX9_restore 15 = .ok (.getfield 12, 3) := by decide +kernel
theorem dX9_restore_18 : decode cX9_restore 18 = .ok (.invokevirtual 40, 3) := by decide +kernel
theorem dX9_restore_21 : decode cX9_restore 21 = .ok (.aload_n 0, 1) := by decide +kernel
theorem dX9_restore_22 : decode cX9_restore 22 = .ok (.getfield 12, 3) := by decide +kernel
theorem dX9_restore_25 : decode cX9_restore 25 = .ok (.aload_n 0, 1) := by decide +kernel
theorem dX9_restore_26 : decode cX9_restore 26 = .ok (.getfield 19, 3) := by decide +kernel
theorem dX9_restore_29 : decode cX9_restore 29 = .ok (.invokevirtual 40, 3) := by decide +kernel
theorem dX9_restore_32 : decode cX9_restore 32 = .ok (.aload_n 0, 1) := by decide +kernel
theorem dX9_restore_33 : decode cX9_restore 33 = .ok (.aload_n 0, 1) := by decide +kernel
theorem dX9_restore_34 : decode cX9_restore 34 = .ok (.getfield 12, 3) := by decide +kernel
theorem dX9_restore_37 : decode cX9_restore 37 = .ok (.getfield 107, 3) := by decide +kernel
theorem dX9_restore_40 : decode cX9_restore 40 = .ok (.invokevirtual 54, 3) := by decide +kernel
theorem dX9_restore_43 : decode cX9_restore 43 = .ok (.ireturn, 1) := by decide +kernel
theorem dX9_sheet_0 : decode cX9_sheet 0 = .ok (.aload_n 0, 1) := by decide +kernel
theorem dX9_sheet_1 : decode cX9_sheet 1 = .ok (.getfield 12, 3) := by decide +kernel
theorem dX9_sheet_4 : decode cX9_sheet 4 = .ok (.getfield 111, 3) := by decide +kernel
theorem dX9_sheet_7 : decode cX9_sheet 7 = .ok (.iload_n 1, 1) := by decide +kernel
theorem dX9_sheet_8 : decode cX9_sheet 8 = .ok (.invokevirtual 115, 3) := by decide +kernel
theorem dX9_sheet_11 : decode cX9_sheet 11 = .ok (.istore_n 3, 1) := by decide +kernel
theorem dX9_sheet_12 : decode cX9_sheet 12 = .ok (.aload_n 0, 1) := by decide +kernel
theorem dX9_sheet_13 : decode cX9_sheet 13 = .ok (.getfield 12, 3) := by decide +kernel
theorem dX9_sheet_16 : decode cX9_sheet 16 = .ok (.getfield 111, 3) := by decide +kernel
theorem dX9_sheet_19 : decode cX9_sheet 19 = .ok (.iload_n 3, 1) := by decide +kernel
theorem dX9_sheet_20 : decode cX9_sheet 20 = .ok (.invokevirtual 120, 3) := by decide +kernel
theorem dX9_sheet_23 : decode cX9_sheet 23 = .ok (.astore 4, 2) := by decide +kernel
theorem dX9_sheet_25 : decode cX9_sheet 25 = .ok (.aload 4, 2) := by decide +kernel
theorem dX9_sheet_27 : decode cX9_sheet 27 = .ok (.ifnonnull 5, 3) := by decide +kernel
theorem dX9_sheet_30 : decode cX9_sheet 30 = .ok (.iconst (-1), 1) := by decide +kernel
theorem dX9_sheet_31 : decode cX9_sheet 31 = .ok (.ireturn, 1) := by decide +kernel
theorem dX9_sheet_32 : decode cX9_sheet 32 = .ok (.iload_n 2, 1) := by decide +kernel
theorem dX9_sheet_33 : decode cX9_sheet 33 = .ok (.tableswitch 80 0 5 #[39, 45, 51, 57, 62, 74], 39) := by decide +kernel
theorem dX9_sheet_72 : decode cX9_sheet 72 = .ok (.aload 4, 2) := by decide +kernel
theorem dX9_sheet_74 : decode cX9_sheet 74 = .ok (.getfield 124, 3) := by decide +kernel
theorem dX9_sheet_77 : decode cX9_sheet 77 = .ok (.ireturn, 1) := by decide +kernel
theorem dX9_sheet_78 : decode cX9_sheet 78 = .ok (.aload 4, 2) := by decide +kernel
theorem dX9_sheet_80 : decode cX9_sheet 80 = .ok (.getfield 129, 3) := by decide +kernel
theorem dX9_sheet_83 : decode cX9_sheet 83 = .ok (.ireturn, 1) := by decide +kernel
theorem dX9_sheet_84 : decode cX9_sheet 84 = .ok (.aload 4, 2) := by decide +kernel
theorem dX9_sheet_86 : decode cX9_sheet 86 = .ok (.getfield 132, 3) := by decide +kernel
theorem dX9_sheet_89 : decode cX9_sheet 89 = .ok (.ireturn, 1) := by decide +kernel
theorem dX9_sheet_90 : decode cX9_sheet 90 = .ok (.iload_n 3, 1) := by decide +kernel
theorem dX9_sheet_91 : decode cX9_sheet 91 = .ok (.bipush 8, 2) := by decide +kernel
theorem dX9_sheet_93 : decode cX9_sheet 93 = .ok (.idiv, 1) := by decide +kernel
theorem dX9_sheet_94 : decode cX9_sheet 94 = .ok (.ireturn, 1) := by decide +kernel
theorem dX9_sheet_95 : decode cX9_sheet 95 = .ok (.aload_n 0, 1) := by decide +kernel
theorem dX9_sheet_96 : decode cX9_sheet 96 = .ok (.getfield 12, 3) := by decide +kernel
theorem dX9_sheet_99 : decode cX9_sheet 99 = .ok (.getfield 111, 3) := by decide +kernel
theorem dX9_sheet_102 : decode cX9_sheet 102 = .ok (.iload_n 3, 1) := by decide +kernel
theorem dX9_sheet_103 : decode cX9_sheet 103 = .ok (.invokevirtual 135, 3) := by decide +kernel
theorem dX9_sheet_106 : decode cX9_sheet 106 = .ok (.ireturn, 1) := by decide +kernel
theorem dX9_sheet_107 : decode cX9_sheet 107 = .ok (.aload 4, 2) := by decide +kernel
theorem dX9_sheet_109 : decode cX9_sheet 109 = .ok (.getfield 138, 3) := by decide +kernel
theorem dX9_sheet_112 : decode cX9_sheet 112 = .ok (.ireturn, 1) := by decide +kernel
theorem dX9_sheet_113 : decode cX9_sheet 113 = .ok (.bipush (-2), 2) := by decide +kernel
theorem dX9_sheet_115 : decode cX9_sheet 115 = .ok (.ireturn, 1) := by decide +kernel
theorem dX9_at_0 : decode cX9_at 0 = .ok (.iload_n 1, 1) := by decide +kernel
theorem dX9_at_1 : decode cX9_at 1 = .ok (.invokestatic 141, 3) := by decide +kernel
theorem dX9_at_4 : decode cX9_at 4 = .ok (.ifCond .ne 5, 3) := by decide +kernel
theorem dX9_at_7 : decode cX9_at 7 = .ok (.iconst (-1), 1) := by decide +kernel
theorem dX9_at_8 : decode cX9_at 8 = .ok (.ireturn, 1) := by decide +kernel
theorem dX9_at_9 : decode cX9_at 9 = .ok (.iload_n 2, 1) := by decide +kernel
theorem dX9_at_10 : decode cX9_at 10 = .ok (.ifCond .ge 6, 3) := by decide +kernel
theorem dX9_at_13 : decode cX9_at 13 = .ok (.bipush (-2), 2) := by decide +kernel
theorem dX9_at_15 : decode cX9_at 15 = .ok (.ireturn, 1) := by decide +kernel
theorem dX9_at_16 : decode cX9_at 16 = .ok (.aload_n 0, 1) := by decide +kernel
theorem dX9_at_17 : decode cX9_at 17 = .ok (.getfield 12, 3) := by decide +kernel
theorem dX9_at_20 : decode cX9_at 20 = .ok (.getfield 111, 3) := by decide +kernel
theorem dX9_at_23 : decode cX9_at 23 = .ok (.iload_n 1, 1) := by decide +kernel
theorem dX9_at_24 : decode cX9_at 24 = .ok (.iload_n 2, 1) := by decide +kernel
theorem dX9_at_25 : decode cX9_at 25 = .ok (.invokevirtual 145, 3) := by decide +kernel
theorem dX9_at_28 : decode cX9_at 28 = .ok (.astore_n 3, 1) := by decide +kernel
theorem dX9_at_29 : decode cX9_at 29 = .ok (.aload_n 3, 1) := by decide +kernel
theorem dX9_at_30 : decode cX9_at 30 = .ok (.ifnonnull 8, 3) := by decide +kernel
theorem dX9_at_33 : decode cX9_at 33 = .ok (.bipush (-5), 2) := by decide +kernel
theorem dX9_at_35 : decode cX9_at 35 = .ok (.goto 7, 3) := by decide +kernel
theorem dX9_at_38 : decode cX9_at 38 = .ok (.aload_n 3, 1) := by decide +kernel
theorem dX9_at_39 : decode cX9_at 39 = .ok (.getfield 149, 3) := by decide +kernel
theorem dX9_at_42 : decode cX9_at 42 = .ok (.ireturn, 1) := by decide +kernel
theorem dX9_ordered_0 : decode cX9_ordered 0 = .ok (.aload_n 0, 1) := by decide +kernel
theorem dX9_ordered_1 : decode cX9_ordered 1 = .ok (.getfield 12, 3) := by decide +kernel
theorem dX9_ordered_4 : decode cX9_ordered 4 = .ok (.getfield 152, 3) := by decide +kernel
theorem dX9_ordered_7 : decode cX9_ordered 7 = .ok (.iload_n 1, 1) := by decide +kernel
theorem dX9_ordered_8 : decode cX9_ordered 8 = .ok (.invokevirtual 156, 3) := by decide +kernel
theorem dX9_ordered_11 : decode cX9_ordered 11 = .ok (.astore_n 3, 1) := by decide +kernel
theorem dX9_ordered_12 : decode cX9_ordered 12 = .ok (.aload_n 3, 1) := by decide +kernel
theorem dX9_ordered_13 : decode cX9_ordered 13 = .ok (.ifnonnull 5, 3) := by decide +kernel
theorem dX9_ordered_16 : decode cX9_ordered 16 = .ok (.iconst (-1), 1) := by decide +kernel
theorem dX9_ordered_17 : decode cX9_ordered 17 = .ok (.ireturn, 1) := by decide +kernel
theorem dX9_ordered_18 : decode cX9_ordered 18 = .ok (.iload_n 2, 1) := by decide +kernel
theorem dX9_ordered_19 : decode cX9_ordered 19 = .ok (.tableswitch 100 0 7 #[45, 50, 55, 60, 65, 70, 75, 80], 45) := by decide +kernel
theorem dX9_ordered_64 : decode cX9_ordered 64 = .ok (.aload_n 3, 1) := by decide +kernel
theorem dX9_ordered_65 : decode cX9_ordered 65 = .ok (.getfield 162, 3) := by decide +kernel
theorem dX9_ordered_68 : decode cX9_ordered 68 = .ok (.ireturn, 1) := by decide +kernel
theorem dX9_ordered_69 : decode cX9_ordered 69 = .ok (.aload_n 3, 1) := by decide +kernel
theorem dX9_ordered_70 : decode cX9_ordered 70 = .ok (.getfield 165, 3) := by decide +kernel
theorem dX9_ordered_73 : decode cX9_ordered 73 = .ok (.ireturn, 1) := by decide +kernel
theorem dX9_ordered_74 : decode cX9_ordered 74 = .ok (.aload_n 3, 1) := by decide +kernel
theorem dX9_ordered_75 : decode cX9_ordered 75 = .ok (.getfield 166, 3) := by decide +kernel
theorem dX9_ordered_78 : decode cX9_ordered 78 = .ok (.ireturn, 1) := by decide +kernel
theorem dX9_ordered_79 : decode cX9_ordered 79 = .ok (.aload_n 3, 1) := by decide +kernel
theorem dX9_ordered_80 : decode cX9_ordered 80 = .ok (.getfield 167, 3) := by decide +kernel
theorem dX9_ordered_83 : decode cX9_ordered 83 = .ok (.ireturn, 1) := by decide +kernel
theorem dX9_ordered_84 : decode cX9_ordered 84 = .ok (.aload_n 3, 1) := by decide +kernel
theorem dX9_ordered_85 : decode cX9_ordered 85 = .ok (.getfield 168, 3) := by decide +kernel
theorem dX9_ordered_88 : decode cX9_ordered 88 = .ok (.ireturn, 1) := by decide +kernel
theorem dX9_ordered_89 : decode cX9_ordered 89 = .ok (.aload_n 3, 1) := by decide +kernel
theorem dX9_ordered_90 : decode cX9_ordered 90 = .ok (.getfield 171, 3) := by decide +kernel
theorem dX9_ordered_93 : decode cX9_ordered 93 = .ok (.ireturn, 1) := by decide +kernel
theorem dX9_ordered_94 : decode cX9_ordered 94 = .ok (.aload_n 3, 1) := by decide +kernel
theorem dX9_ordered_95 : decode cX9_ordered 95 = .ok (.getfield 172, 3) := by decide +kernel
theorem dX9_ordered_98 : decode cX9_ordered 98 = .ok (.ireturn, 1) := by decide +kernel
theorem dX9_ordered_99 : decode cX9_ordered 99 = .ok (.aload_n 3, 1) := by decide +kernel
theorem dX9_ordered_100 : decode cX9_ordered 100 = .ok (.aload_n 0, 1) := by decide +kernel
theorem dX9_ordered_101 : decode cX9_ordered 101 = .ok (.getfield 12, 3) := by decide +kernel
theorem dX9_ordered_104 : decode cX9_ordered 104 = .ok (.getfield 107, 3) := by decide +kernel
theorem dX9_ordered_107 : decode cX9_ordered 107 = .ok (.invokevirtual 175, 3) := by decide +kernel
theorem dX9_ordered_110 : decode cX9_ordered 110 = .ok (.ifCond .eq 7, 3) := by decide +kernel
theorem dX9_ordered_113 : decode cX9_ordered 113 = .ok (.iconst 1, 1) := by decide +kernel
theorem dX9_ordered_114 : decode cX9_ordered 114 = .ok (.goto 4, 3) := by decide +kernel
theorem dX9_ordered_117 : decode cX9_ordered 117 = .ok (.iconst 0, 1) := by decide +kernel
theorem dX9_ordered_118 : decode cX9_ordered 118 = .ok (.ireturn, 1) := by decide +kernel
theorem dX9_ordered_119 : decode cX9_ordered 119 = .ok (.bipush (-2), 2) := by decide +kernel
theorem dX9_ordered_121 : decode cX9_ordered 121 = .ok (.ireturn, 1) := by decide +kernel
theorem dX9_would_0 : decode cX9_would 0 = .ok (.aload_n 0, 1) := by decide +kernel
theorem dX9_would_1 : decode cX9_would 1 = .ok (.getfield 12, 3) := by decide +kernel
theorem dX9_would_4 : decode cX9_would 4 = .ok (.getfield 152, 3) := by decide +kernel
theorem dX9_would_7 : decode cX9_would 7 = .ok (.iload_n 1, 1) := by decide +kernel
theorem dX9_would_8 : decode cX9_would 8 = .ok (.invokevirtual 156, 3) := by decide +kernel
theorem dX9_would_11 : decode cX9_would 11 = .ok (.astore 4, 2) := by decide +kernel
theorem dX9_would_13 : decode cX9_would 13 = .ok (.aload_n 0, 1) := by decide +kernel
theorem dX9_would_14 : decode cX9_would 14 = .ok (.getfield 12, 3) := by decide +kernel
theorem dX9_would_17 : decode cX9_would 17 = .ok (.getfield 111, 3) := by decide +kernel
theorem dX9_would_20 : decode cX9_would 20 = .ok (.iload_n 2, 1) := by decide +kernel
theorem dX9_would_21 : decode cX9_would 21 = .ok (.invokevirtual 115, 3) := by decide +kernel
theorem dX9_would_24 : decode cX9_would 24 = .ok (.istore 5, 2) := by decide +kernel
theorem dX9_would_26 : decode cX9_would 26 = .ok (.aload_n 0, 1) := by decide +kernel
theorem dX9_would_27 : decode cX9_would 27 = .ok (.getfield 12, 3) := by decide +kernel
theorem dX9_would_30 : decode cX9_would 30 = .ok (.getfield 111, 3) := by decide +kernel
theorem dX9_would_33 : decode cX9_would 33 = .ok (.iload 5, 2) := by decide +kernel
theorem dX9_would_35 : decode cX9_would 35 = .ok (.invokevirtual 120, 3) := by decide +kernel
theorem dX9_would_38 : decode cX9_would 38 = .ok (.astore 6, 2) := by decide +kernel
theorem dX9_would_40 : decode cX9_would 40 = .ok (.aload 4, 2) := by decide +kernel
theorem dX9_would_42 : decode cX9_would 42 = .ok (.ifnull 8, 3) := by decide +kernel
theorem dX9_would_45 : decode cX9_would 45 = .ok (.aload 6, 2) := by decide +kernel
theorem dX9_would_47 : decode cX9_would 47 = .ok (.ifnonnull 5, 3) := by decide +kernel
theorem dX9_would_50 : decode cX9_would 50 = .ok (.iconst (-1), 1) := by decide +kernel
theorem dX9_would_51 : decode cX9_would 51 = .ok (.ireturn, 1) := by decide +kernel
theorem dX9_would_52 : decode cX9_would 52 = .ok (.iload_n 3, 1) := by decide +kernel
theorem dX9_would_53 : decode cX9_would 53 = .ok (.ifCond .lt 9, 3) := by decide +kernel
theorem dX9_would_56 : decode cX9_would 56 = .ok (.iload_n 3, 1) := by decide +kernel
theorem dX9_would_57 : decode cX9_would 57 = .ok (.bipush 6, 2) := by decide +kernel
theorem dX9_would_59 : decode cX9_would 59 = .ok (.if_icmp .le 6, 3) := by decide +kernel
theorem dX9_would_62 : decode cX9_would 62 = .ok (.bipush (-2), 2) := by decide +kernel
theorem dX9_would_64 : decode cX9_would 64 = .ok (.ireturn, 1) := by decide +kernel
theorem dX9_would_65 : decode cX9_would 65 = .ok (.aload_n 0, 1) := by decide +kernel
theorem dX9_would_66 : decode cX9_would 66 = .ok (.getfield 12, 3) := by decide +kernel
theorem dX9_would_69 : decode cX9_would 69 = .ok (.getfield 178, 3) := by decide +kernel
theorem dX9_would_72 : decode cX9_would 72 = .ok (.astore 7, 2) := by decide +kernel
theorem dX9_would_74 : decode cX9_would 74 = .ok (.aload 7, 2) := by decide +kernel
theorem dX9_would_76 : decode cX9_would 76 = .ok (.aload 4, 2) := by decide +kernel
theorem dX9_would_78 : decode cX9_would 78 = .ok (.aload 6, 2) := by decide +kernel
theorem dX9_would_80 : decode cX9_would 80 = .ok (.aload_n 0, 1) := by decide +kernel
theorem dX9_would_81 : decode cX9_would 81 = .ok (.getfield 12, 3) := by decide +kernel
theorem dX9_would_84 : decode cX9_would 84 = .ok (.getfield 44, 3) := by decide +kernel
theorem dX9_would_87 : decode cX9_would 87 = .ok (.invokevirtual 182, 3) := by decide +kernel
theorem dX9_would_90 : decode cX9_would 90 = .ok (.ifCond .ne 6, 3) := by decide +kernel
theorem dX9_would_93 : decode cX9_would 93 = .ok (.bipush (-5), 2) := by decide +kernel
theorem dX9_would_95 : decode cX9_would 95 = .ok (.ireturn, 1) := by decide +kernel
theorem dX9_would_96 : decode cX9_would 96 = .ok (.iload_n 3, 1) := by decide +kernel
theorem dX9_would_97 : decode cX9_would 97 = .ok (.tableswitch 83 0 5 #[39, 53, 59, 65, 71, 77], 39) := by decide +kernel
theorem dX9_would_136 : decode cX9_would 136 = .ok (.aload 7, 2) := by decide +kernel
theorem dX9_would_138 : decode cX9_would 138 = .ok (.getfield 188, 3) := by decide +kernel
theorem dX9_would_141 : decode cX9_would 141 = .ok (.ifCond .eq 7, 3) := by decide +kernel
theorem dX9_would_144 : decode cX9_would 144 = .ok (.iconst 1, 1) := by decide +kernel
theorem dX9_would_145 : decode cX9_would 145 = .ok (.goto 4, 3) := by decide +kernel
theorem dX9_would_148 : decode cX9_would 148 = .ok (.iconst 0, 1) := by decide +kernel
theorem dX9_would_149 : decode cX9_would 149 = .ok (.ireturn, 1) := by decide +kernel
theorem dX9_would_150 : decode cX9_would 150 = .ok (.aload 7, 2) := by decide +kernel
theorem dX9_would_152 : decode cX9_would 152 = .ok (.getfield 191, 3) := by decide +kernel
theorem dX9_would_155 : decode cX9_would 155 = .ok (.ireturn, 1) := by decide +kernel
theorem dX9_would_156 : decode cX9_would 156 = .ok (.aload 7, 2) := by decide +kernel
theorem dX9_would_158 : decode cX9_would 158 = .ok (.getfield 194, 3) := by decide +kernel
theorem dX9_would_161 : decode cX9_would 161 = .ok (.ireturn, 1) := by decide +kernel
theorem dX9_would_162 : decode cX9_would 162 = .ok (.aload 7, 2) := by decide +kernel
theorem dX9_would_164 : decode cX9_would 164 = .ok (.getfield 197, 3) := by decide +kernel
theorem dX9_would_167 : decode cX9_would 167 = .ok (.ireturn, 1) := by decide +kernel
theorem dX9_would_168 : decode cX9_would 168 = .ok (.aload 7, 2) := by decide +kernel
theorem dX9_would_170 : decode cX9_would 170 = .ok (.getfield 200, 3) := by decide +kernel
theorem dX9_would_173 : decode cX9_would 173 = .ok (.ireturn, 1) := by decide +kernel
theorem dX9_would_174 : decode cX9_would 174 = .ok (.aload 7, 2) := by decide +kernel
theorem dX9_would_176 : decode cX9_would 176 = .ok (.getfield 203, 3) := by decide +kernel
theorem dX9_would_179 : decode cX9_would 179 = .ok (.ireturn, 1) := by decide +kernel
theorem dX9_would_180 : decode cX9_would 180 = .ok (.aload_n 0, 1) := by decide +kernel
theorem dX9_would_181 : decode cX9_would 181 = .ok (.getfield 12, 3) := by decide +kernel
theorem dX9_would_184 : decode cX9_would 184 = .ok (.getfield 111, 3) := by decide +kernel
theorem dX9_would_187 : decode cX9_would 187 = .ok (.iload 5, 2) := by decide +kernel
theorem dX9_would_189 : decode cX9_would 189 = .ok (.invokevirtual 135, 3) := by decide +kernel
theorem dX9_would_192 : decode cX9_would 192 = .ok (.iconst 1, 1) := by decide +kernel
theorem dX9_would_193 : decode cX9_would 193 = .ok (.iadd, 1) := by decide +kernel
theorem dX9_would_194 : decode cX9_would 194 = .ok (.ireturn, 1) := by decide +kernel
theorem dX9_choice_0 : decode cX9_choice 0 = .ok (.aload_n 0, 1) := by decide +kernel
theorem dX9_choice_1 : decode cX9_choice 1 = .ok (.getfield 12, 3) := by decide +kernel
theorem dX9_choice_4 : decode cX9_choice 4 = .ok (.getfield 152, 3) := by decide +kernel
theorem dX9_choice_7 : decode cX9_choice 7 = .ok (.iload_n 1, 1) := by decide +kernel
theorem dX9_choice_8 : decode cX9_choice 8 = .ok (.invokevirtual 156, 3) := by decide +kernel
theorem dX9_choice_11 : decode cX9_choice 11 = .ok (.astore_n 3, 1) := by decide +kernel
theorem dX9_choice_12 : decode cX9_choice 12 = .ok (.aload_n 3, 1) := by decide +kernel
theorem dX9_choice_13 : decode cX9_choice 13 = .ok (.ifnonnull 5, 3) := by decide +kernel
theorem dX9_choice_16 : decode cX9_choice 16 = .ok (.iconst (-1), 1) := by decide +kernel
theorem dX9_choice_17 : decode cX9_choice 17 = .ok (.ireturn, 1) := by decide +kernel
theorem dX9_choice_18 : decode cX9_choice 18 = .ok (.iload_n 2, 1) := by decide +kernel
theorem dX9_choice_19 : decode cX9_choice 19 = .ok (.invokestatic 206, 3) := by decide +kernel
theorem dX9_choice_22 : decode cX9_choice 22 = .ok (.ifCond .ne 6, 3) := by decide +kernel
theorem dX9_choice_25 : decode cX9_choice 25 = .ok (.bipush (-2), 2) := by decide +kernel
theorem dX9_choice_27 : decode cX9_choice 27 = .ok (.ireturn, 1) := by decide +kernel
theorem dX9_choice_28 : decode cX9_choice 28 = .ok (.aload_n 3, 1) := by decide +kernel
theorem dX9_choice_29 : decode cX9_choice 29 = .ok (.invokevirtual 209, 3) := by decide +kernel
theorem dX9_choice_32 : decode cX9_choice 32 = .ok (.ifCond .ne 6, 3) := by decide +kernel
theorem dX9_choice_35 : decode cX9_choice 35 = .ok (.bipush (-4), 2) := by decide +kernel
theorem dX9_choice_37 : decode cX9_choice 37 = .ok (.ireturn, 1) := by decide +kernel
theorem dX9_choice_38 : decode cX9_choice 38 = .ok (.aload_n 0, 1) := by decide +kernel
theorem dX9_choice_39 : decode cX9_choice 39 = .ok (.getfield 12, 3) := by decide +kernel
theorem dX9_choice_42 : decode cX9_choice 42 = .ok (.aload_n 3, 1) := by decide +kernel
theorem dX9_choice_43 : decode cX9_choice 43 = .ok (.iload_n 2, 1) := by decide +kernel
theorem dX9_choice_44 : decode cX9_choice 44 = .ok (.invokevirtual 213, 3) := by decide +kernel
theorem dX9_choice_47 : decode cX9_choice 47 = .ok (.astore 4, 2) := by decide +kernel
theorem dX9_choice_49 : decode cX9_choice 49 = .ok (.aload 4, 2) := by decide +kernel
theorem dX9_choice_51 : decode cX9_choice 51 = .ok (.ifnonnull 8, 3) := by decide +kernel
theorem dX9_choice_54 : decode cX9_choice 54 = .ok (.bipush (-5), 2) := by decide +kernel
theorem dX9_choice_56 : decode cX9_choice 56 = .ok (.goto 8, 3) := by decide +kernel
theorem dX9_choice_59 : decode cX9_choice 59 = .ok (.aload 4, 2) := by decide +kernel
theorem dX9_choice_61 : decode cX9_choice 61 = .ok (.getfield 149, 3) := by decide +kernel
theorem dX9_choice_64 : decode cX9_choice 64 = .ok (.ireturn, 1) := by decide +kernel
theorem dX9_next_0 : decode cX9_next 0 = .ok (.iload_n 1, 1) := by decide +kernel
theorem dX9_next_1 : decode cX9_next 1 = .ok (.ifCond .ge 6, 3) := by decide +kernel
theorem dX9_next_4 : decode cX9_next 4 = .ok (.bipush (-2), 2) := by decide +kernel
theorem dX9_next_6 : decode cX9_next 6 = .ok (.ireturn, 1) := by decide +kernel
theorem dX9_next_7 : decode cX9_next 7 = .ok (.aload_n 0, 1) := by decide +kernel
theorem dX9_next_8 : decode cX9_next 8 = .ok (.getfield 12, 3) := by decide +kernel
theorem dX9_next_11 : decode cX9_next 11 = .ok (.getfield 152, 3) := by decide +kernel
theorem dX9_next_14 : decode cX9_next 14 = .ok (.iload_n 1, 1) := by decide +kernel
theorem dX9_next_15 : decode cX9_next 15 = .ok (.invokevirtual 217, 3) := by decide +kernel
theorem dX9_next_18 : decode cX9_next 18 = .ok (.astore_n 2, 1) := by decide +kernel
theorem dX9_next_19 : decode cX9_next 19 = .ok (.aload_n 2, 1) := by decide +kernel
theorem dX9_next_20 : decode cX9_next 20 = .ok (.ifnonnull 8, 3) := by decide +kernel
theorem dX9_next_23 : decode cX9_next 23 = .ok (.bipush (-5), 2) := by decide +kernel
theorem dX9_next_25 : decode cX9_next 25 = .ok (.goto 7, 3) := by decide +kernel
theorem dX9_next_28 : decode cX9_next 28 = .ok (.aload_n 2, 1) := by decide +kernel
theorem dX9_next_29 : decode cX9_next 29 = .ok (.getfield 220, 3) := by decide +kernel
theorem dX9_next_32 : decode cX9_next 32 = .ok (.ireturn, 1) := by decide +kernel
theorem dX9_wouldPlan_0 : decode cX9_wouldPlan 0 = .ok (.iload_n 1, 1) := by decide +kernel
theorem dX9_wouldPlan_1 : decode cX9_wouldPlan 1 = .ok (.invokestatic 206, 3) := by decide +kernel
theorem dX9_wouldPlan_4 : decode cX9_wouldPlan 4 = .ok (.ifCond .eq 12, 3) := by decide +kernel
theorem dX9_wouldPlan_7 : decode cX9_wouldPlan 7 = .ok (.iload_n 2, 1) := by decide +kernel
theorem dX9_wouldPlan_8 : decode cX9_wouldPlan 8 = .ok (.ifCond .lt 8, 3) := by decide +kernel
theorem dX9_wouldPlan_11 : decode cX9_wouldPlan 11 = .ok (.iload_n 2, 1) := by decide +kernel
theorem dX9_wouldPlan_12 : decode cX9_wouldPlan 12 = .ok (.iconst 3, 1) := by decide +kernel
theorem dX9_wouldPlan_13 : decode cX9_wouldPlan 13 = .ok (.if_icmp .le 6, 3) := by decide +kernel
theorem dX9_wouldPlan_16 : decode cX9_wouldPlan 16 = .ok (.bipush (-2), 2) := by decide +kernel
theorem dX9_wouldPlan_18 : decode cX9_wouldPlan 18 = .ok (.ireturn, 1) := by decide +kernel
theorem dX9_wouldPlan_19 : decode cX9_wouldPlan 19 = .ok (.aload_n 0, 1) := by decide +kernel
theorem dX9_wouldPlan_20 : decode cX9_wouldPlan 20 = .ok (.getfield 16, 3) := by decide +kernel
theorem dX9_wouldPlan_23 : decode cX9_wouldPlan 23 = .ok (.astore_n 3, 1) := by decide +kernel
theorem dX9_wouldPlan_24 : decode cX9_wouldPlan 24 = .ok (.aload_n 3, 1) := by decide +kernel
theorem dX9_wouldPlan_25 : decode cX9_wouldPlan 25 = .ok (.aload_n 0, 1) := by decide +kernel
theorem dX9_wouldPlan_26 : decode cX9_wouldPlan 26 = .ok (.getfield 12, 3) := by decide +kernel
theorem dX9_wouldPlan_29 : decode cX9_wouldPlan 29 = .ok (.invokevirtual 40, 3) := by decide +kernel
theorem dX9_wouldPlan_32 : decode cX9_wouldPlan 32 = .ok (.aload_n 3, 1) := by decide +kernel
theorem dX9_wouldPlan_33 : decode cX9_wouldPlan 33 = .ok (.iload_n 1, 1) := by decide +kernel
theorem dX9_wouldPlan_34 : decode cX9_wouldPlan 34 = .ok (.invokevirtual 77, 3) := by decide +kernel
theorem dX9_wouldPlan_37 : decode cX9_wouldPlan 37 = .ok (.istore 4, 2) := by decide +kernel
theorem dX9_wouldPlan_39 : decode cX9_wouldPlan 39 = .ok (.iload_n 2, 1) := by decide +kernel
theorem dX9_wouldPlan_40 : decode cX9_wouldPlan 40 = .ok (.tableswitch 66 0 2 #[28, 40, 53], 28) := by decide +kernel
theorem dX9_wouldPlan_68 : decode cX9_wouldPlan 68 = .ok (.iload 4, 2) := by decide +kernel
theorem dX9_wouldPlan_70 : decode cX9_wouldPlan 70 = .ok (.ifCond .ge 7, 3) := by decide +kernel
theorem dX9_wouldPlan_73 : decode cX9_wouldPlan 73 = .ok (.iconst 0, 1) := by decide +kernel
theorem dX9_wouldPlan_74 : decode cX9_wouldPlan 74 = .ok (.goto 5, 3) := by decide +kernel
theorem dX9_wouldPlan_77 : decode cX9_wouldPlan 77 = .ok (.iload 4, 2) := by decide +kernel
theorem dX9_wouldPlan_79 : decode cX9_wouldPlan 79 = .ok (.ireturn, 1) := by decide +kernel
theorem dX9_wouldPlan_80 : decode cX9_wouldPlan 80 = .ok (.aload_n 3, 1) := by decide +kernel
theorem dX9_wouldPlan_81 : decode cX9_wouldPlan 81 = .ok (.getfield 221, 3) := by decide +kernel
theorem dX9_wouldPlan_84 : decode cX9_wouldPlan 84 = .ok (.aload_n 0, 1) := by decide +kernel
theorem dX9_wouldPlan_85 : decode cX9_wouldPlan 85 = .ok (.getfield 12, 3) := by decide +kernel
theorem dX9_wouldPlan_88 : decode cX9_wouldPlan 88 = .ok (.getfield 221, 3) := by decide +kernel
theorem dX9_wouldPlan_91 : decode cX9_wouldPlan 91 = .ok (.isub, 1) := by decide +kernel
theorem dX9_wouldPlan_92 : decode cX9_wouldPlan 92 = .ok (.ireturn, 1) := by decide +kernel
theorem dX9_wouldPlan_93 : decode cX9_wouldPlan 93 = .ok (.aload_n 3, 1) := by decide +kernel
theorem dX9_wouldPlan_94 : decode cX9_wouldPlan 94 = .ok (.getfield 222, 3) := by decide +kernel
theorem dX9_wouldPlan_97 : decode cX9_wouldPlan 97 = .ok (.aload_n 0, 1) := by decide +kernel
theorem dX9_wouldPlan_98 : decode cX9_wouldPlan 98 = .ok (.getfield 12, 3) := by decide +kernel
theorem dX9_wouldPlan_101 : decode cX9_wouldPlan 101 = .ok (.getfield 222, 3) := by decide +kernel
theorem dX9_wouldPlan_104 : decode cX9_wouldPlan 104 = .ok (.isub, 1) := by decide +kernel
theorem dX9_wouldPlan_105 : decode cX9_wouldPlan 105 = .ok (.ireturn, 1) := by decide +kernel
theorem dX9_wouldPlan_106 : decode cX9_wouldPlan 106 = .ok (.aload_n 3, 1) := by decide +kernel
theorem dX9_wouldPlan_107 : decode cX9_wouldPlan 107 = .ok (.getfield 225, 3) := by decide +kernel
theorem dX9_wouldPlan_110 : decode cX9_wouldPlan 110 = .ok (.aload_n 0, 1) := by decide +kernel
theorem dX9_wouldPlan_111 : decode cX9_wouldPlan 111 = .ok (.getfield 12, 3) := by decide +kernel
theorem dX9_wouldPlan_114 : decode cX9_wouldPlan 114 = .ok (.getfield 225, 3) := by decide +kernel
theorem dX9_wouldPlan_117 : decode cX9_wouldPlan 117 = .ok (.isub, 1) := by decide +kernel
theorem dX9_wouldPlan_118 : decode cX9_wouldPlan 118 = .ok (.ireturn, 1) := by decide +kernel
theorem dX9_count_0 : decode cX9_count 0 = .ok (.iload_n 1, 1) := by decide +kernel
theorem dX9_count_1 : decode cX9_count 1 = .ok (.tableswitch 275 0 24 #[115, 123, 134, 145, 153, 161, 169, 177, 185, 193, 204, 215, 233, 244, 252, 275, 275, 275, 275, 275, 260, 260, 260, 260, 260], 115) := by decide +kernel
theorem dX9_count_116 : decode cX9_count 116 = .ok (.aload_n 0, 1) := by decide +kernel
theorem dX9_count_117 : decode cX9_count 117 = .ok (.getfield 12, 3) := by decide +kernel
theorem dX9_count_120 : decode cX9_count 120 = .ok (.getfield 107, 3) := by decide +kernel
theorem dX9_count_123 : decode cX9_count 123 = .ok (.ireturn, 1) := by decide +kernel
theorem dX9_count_124 : decode cX9_count 124 = .ok (.aload_n 0, 1) := by decide +kernel
theorem dX9_count_125 : decode cX9_count 125 = .ok (.getfield 12, 3) := by decide +kernel
theorem dX9_count_128 : decode cX9_count 128 = .ok (.getfield 111, 3) := by decide +kernel
theorem dX9_count_131 : decode cX9_count 131 = .ok (.invokevirtual 228, 3) := by decide +kernel
theorem dX9_count_134 : decode cX9_count 134 = .ok (.ireturn, 1) := by decide +kernel
theorem dX9_count_135 : decode cX9_count 135 = .ok (.aload_n 0, 1) := by decide +kernel
theorem dX9_count_136 : decode cX9_count 136 = .ok (.getfield 12, 3) := by decide +kernel
theorem dX9_count_139 : decode cX9_count 139 = .ok (.getfield 111, 3) := by decide +kernel
theorem dX9_count_142 : decode cX9_count 142 = .ok (.invokevirtual 231, 3) := by decide +kernel
theorem dX9_count_145 : decode cX9_count 145 = .ok (.ireturn, 1) := by decide +kernel
theorem dX9_count_146 : decode cX9_count 146 = .ok (.aload_n 0, 1) := by decide +kernel
theorem dX9_count_147 : decode cX9_count 147 = .ok (.getfield 12, 3) := by decide +kernel
theorem dX9_count_150 : decode cX9_count 150 = .ok (.getfield 234, 3) := by decide +kernel
theorem dX9_count_153 : decode cX9_count 153 = .ok (.ireturn, 1) := by decide +kernel
theorem dX9_count_154 : decode cX9_count 154 = .ok (.aload_n 0, 1) := by decide +kernel
theorem dX9_count_155 : decode cX9_count 155 = .ok (.getfield 12, 3) := by decide +kernel
theorem dX9_count_158 : decode cX9_count 158 = .ok (.getfield 237, 3) := by decide +kernel
theorem dX9_count_161 : decode cX9_count 161 = .ok (.ireturn, 1) := by decide +kernel
theorem dX9_count_162 : decode cX9_count 162 = .ok (.aload_n 0, 1) := by decide +kernel
theorem dX9_count_163 : decode cX9_count 163 = .ok (.getfield 12, 3) := by decide +kernel
theorem dX9_count_166 : decode cX9_count 166 = .ok (.getfield 221, 3) := by decide +kernel
theorem dX9_count_169 : decode cX9_count 169 = .ok (.ireturn, 1) := by decide +kernel
theorem dX9_count_170 : decode cX9_count 170 = .ok (.aload_n 0, 1) := by decide +kernel
theorem dX9_count_171 : decode cX9_count 171 = .ok (.getfield 12, 3) := by decide +kernel
theorem dX9_count_174 : decode cX9_count 174 = .ok (.getfield 225, 3) := by decide +kernel
theorem dX9_count_177 : decode cX9_count 177 = .ok (.ireturn, 1) := by decide +kernel
theorem dX9_count_178 : decode cX9_count 178 = .ok (.aload_n 0, 1) := by decide +kernel
theorem dX9_count_179 : decode cX9_count 179 = .ok (.getfield 12, 3) := by decide +kernel
theorem dX9_count_182 : decode cX9_count 182 = .ok (.getfield 240, 3) := by decide +kernel
theorem dX9_count_185 : decode cX9_count 185 = .ok (.ireturn, 1) := by decide +kernel
theorem dX9_count_186 : decode cX9_count 186 = .ok (.aload_n 0, 1) := by decide +kernel
theorem dX9_count_187 : decode cX9_count 187 = .ok (.getfield 12, 3) := by decide +kernel
theorem dX9_count_190 : decode cX9_count 190 = .ok (.getfield 222, 3) := by decide +kernel
theorem dX9_count_193 : decode cX9_count 193 = .ok (.ireturn, 1) := by decide +kernel
theorem dX9_count_194 : decode cX9_count 194 = .ok (.aload_n 0, 1) := by decide +kernel
theorem dX9_count_195 : decode cX9_count 195 = .ok (.getfield 12, 3) := by decide +kernel
theorem dX9_count_198 : decode cX9_count 198 = .ok (.getfield 152, 3) := by decide +kernel
theorem dX9_count_201 : decode cX9_count 201 = .ok (.getfield 241, 3) := by decide +kernel
theorem dX9_count_204 : decode cX9_count 204 = .ok (.ireturn, 1) := by decide +kernel
theorem dX9_count_205 : decode cX9_count 205 = .ok (.aload_n 0, 1) := by decide +kernel
theorem dX9_count_206 : decode cX9_count 206 = .ok (.getfield 12, 3) := by decide +kernel
theorem dX9_count_209 : decode cX9_count 209 = .ok (.getfield 152, 3) := by decide +kernel
theorem dX9_count_212 : decode cX9_count 212 = .ok (.invokevirtual 244, 3) := by decide +kernel
theorem dX9_count_215 : decode cX9_count 215 = .ok (.ireturn, 1) := by decide +kernel
theorem dX9_count_216 : decode cX9_count 216 = .ok (.aload_n 0, 1) := by decide +kernel
theorem dX9_count_217 : decode cX9_count 217 = .ok (.getfield 12, 3) := by decide +kernel
theorem dX9_count_220 : decode cX9_count 220 = .ok (.getfield 152, 3) := by decide +kernel
theorem dX9_count_223 : decode cX9_count 223 = .ok (.aload_n 0, 1) := by decide +kernel
theorem dX9_count_224 : decode cX9_count 224 = .ok (.getfield 12, 3) := by decide +kernel
theorem dX9_count_227 : decode cX9_count 227 = .ok (.getfield 107, 3) := by decide +kernel
theorem dX9_count_230 : decode cX9_count 230 = .ok (.invokevirtual 247, 3) := by decide +kernel
theorem dX9_count_233 : decode cX9_count 233 = .ok (.ireturn, 1) := by decide +kernel
theorem dX9_count_234 : decode cX9_count 234 = .ok (.aload_n 0, 1) := by decide +kernel
theorem dX9_count_235 : decode cX9_count 235 = .ok (.getfield 12, 3) := by decide +kernel
theorem dX9_count_238 : decode cX9_count 238 = .ok (.getfield 111, 3) := by decide +kernel
theorem dX9_count_241 : decode cX9_count 241 = .ok (.getfield 250, 3) := by decide +kernel
theorem dX9_count_244 : decode cX9_count 244 = .ok (.ireturn, 1) := by decide +kernel
theorem dX9_count_245 : decode cX9_count 245 = .ok (.aload_n 0, 1) := by decide +kernel
theorem dX9_count_246 : decode cX9_count 246 = .ok (.getfield 29, 3) := by decide +kernel
theorem dX9_count_249 : decode cX9_count 249 = .ok (.getfield 253, 3) := by decide +kernel
theorem dX9_count_252 : decode cX9_count 252 = .ok (.ireturn, 1) := by decide +kernel
theorem dX9_count_253 : decode cX9_count 253 = .ok (.aload_n 0, 1) := by decide +kernel
theorem dX9_count_254 : decode cX9_count 254 = .ok (.getfield 36, 3) := by decide +kernel
theorem dX9_count_257 : decode cX9_count 257 = .ok (.getfield 255, 3) := by decide +kernel
theorem dX9_count_260 : decode cX9_count 260 = .ok (.ireturn, 1) := by decide +kernel
theorem dX9_count_261 : decode cX9_count 261 = .ok (.aload_n 0, 1) := by decide +kernel
theorem dX9_count_262 : decode cX9_count 262 = .ok (.getfield 12, 3) := by decide +kernel
theorem dX9_count_265 : decode cX9_count 265 = .ok (.getfield 44, 3) := by decide +kernel
theorem dX9_count_268 : decode cX9_count 268 = .ok (.iload_n 1, 1) := by decide +kernel
theorem dX9_count_269 : decode cX9_count 269 = .ok (.bipush 20, 2) := by decide +kernel
theorem dX9_count_271 : decode cX9_count 271 = .ok (.isub, 1) := by decide +kernel
theorem dX9_count_272 : decode cX9_count 272 = .ok (.invokevirtual 258, 3) := by decide +kernel
theorem dX9_count_275 : decode cX9_count 275 = .ok (.ireturn, 1) := by decide +kernel
theorem dX9_count_276 : decode cX9_count 276 = .ok (.bipush (-2), 2) := by decide +kernel
theorem dX9_count_278 : decode cX9_count 278 = .ok (.ireturn, 1) := by decide +kernel
theorem dX9_recorded_0 : decode cX9_recorded 0 = .ok (.iload_n 1, 1) := by decide +kernel
theorem dX9_recorded_1 : decode cX9_recorded 1 = .ok (.ifCond .lt 14, 3) := by decide +kernel
theorem dX9_recorded_4 : decode cX9_recorded 4 = .ok (.aload_n 0, 1) := by decide +kernel
theorem dX9_recorded_5 : decode cX9_recorded 5 = .ok (.getfield 29, 3) := by decide +kernel
theorem dX9_recorded_8 : decode cX9_recorded 8 = .ok (.aload_n 0, 1) := by decide +kernel
theorem dX9_recorded_9 : decode cX9_recorded 9 = .ok (.getfield 16, 3) := by decide +kernel
theorem dX9_recorded_12 : decode cX9_recorded 12 = .ok (.invokevirtual 261, 3) := by decide +kernel
theorem dX9_recorded_15 : decode cX9_recorded 15 = .ok (.iload_n 1, 1) := by decide +kernel
theorem dX9_recorded_16 : decode cX9_recorded 16 = .ok (.ireturn, 1) := by decide +kernel
theorem dX9_runCommand_0 : decode cX9_runCommand 0 = .ok (.aload_n 0, 1) := by decide +kernel
theorem dX9_runCommand_1 : decode cX9_runCommand 1 = .ok (.getfield 36, 3) := by decide +kernel
theorem dX9_runCommand_4 : decode cX9_runCommand 4 = .ok (.getfield 264, 3) := by decide +kernel
theorem dX9_runCommand_7 : decode cX9_runCommand 7 = .ok (.tableswitch 120 111 115 #[69, 105, 120, 120, 33], 33) := by decide +kernel
theorem dX9_runCommand_40 : decode cX9_runCommand 40 = .ok (.aload_n 0, 1) := by decide +kernel
theorem dX9_runCommand_41 : decode cX9_runCommand 41 = .ok (.getfield 12, 3) := by decide +kernel
theorem dX9_runCommand_44 : decode cX9_runCommand 44 = .ok (.aload_n 0, 1) := by decide +kernel
theorem dX9_runCommand_45 : decode cX9_runCommand 45 = .ok (.getfield 36, 3) := by decide +kernel
theorem dX9_runCommand_48 : decode cX9_runCommand 48 = .ok (.getfield 267, 3) := by decide +kernel
theorem dX9_runCommand_51 : decode cX9_runCommand 51 = .ok (.aload_n 0, 1) := by decide +kernel
theorem dX9_runCommand_52 : decode cX9_runCommand 52 = .ok (.getfield 36, 3) := by decide +kernel
theorem dX9_runCommand_55 : decode cX9_runCommand 55 = .ok (.getfield 270, 3) := by decide +kernel
theorem dX9_runCommand_58 : decode cX9_runCommand 58 = .ok (.aload_n 0, 1) := by decide +kernel
theorem dX9_runCommand_59 : decode cX9_runCommand 59 = .ok (.getfield 36, 3) := by decide +kernel
theorem dX9_runCommand_62 : decode cX9_runCommand 62 = .ok (.getfield 271, 3) := by decide +kernel
theorem dX9_runCommand_65 : decode cX9_runCommand 65 = .ok (.aload_n 0, 1) := by decide +kernel
theorem dX9_runCommand_66 : decode cX9_runCommand 66 = .ok (.getfield 36, 3) := by decide +kernel
theorem dX9_runCommand_69 : decode cX9_runCommand 69 = .ok (.getfield 272, 3) := by decide +kernel
theorem dX9_runCommand_72 : decode cX9_runCommand 72 = .ok (.invokevirtual 58, 3) := by decide +kernel
theorem dX9_runCommand_75 : decode cX9_runCommand 75 = .ok (.ireturn, 1) := by decide +kernel
theorem dX9_runCommand_76 : decode cX9_runCommand 76 = .ok (.aload_n 0, 1) := by decide +kernel
theorem dX9_runCommand_77 : decode cX9_runCommand 77 = .ok (.getfield 12, 3) := by decide +kernel
theorem dX9_runCommand_80 : decode cX9_runCommand 80 = .ok (.aload_n 0, 1) := by decide +kernel
theorem dX9_runCommand_81 : decode cX9_runCommand 81 = .ok (.getfield 36, 3) := by decide +kernel
theorem dX9_runCommand_84 : decode cX9_runCommand 84 = .ok (.getfield 270, 3) := by decide +kernel
theorem dX9_runCommand_87 : decode cX9_runCommand 87 = .ok (.aload_n 0, 1) := by decide +kernel
theorem dX9_runCommand_88 : decode cX9_runCommand 88 = .ok (.getfield 36, 3) := by decide +kernel
theorem dX9_runCommand_91 : decode cX9_runCommand 91 = .ok (.getfield 271, 3) := by decide +kernel
theorem dX9_runCommand_94 : decode cX9_runCommand 94 = .ok (.aload_n 0, 1) := by decide +kernel
theorem dX9_runCommand_95 : decode cX9_runCommand 95 = .ok (.getfield 36, 3) := by decide +kernel
theorem dX9_runCommand_98 : decode cX9_runCommand 98 = .ok (.getfield 272, 3) := by decide +kernel
theorem dX9_runCommand_101 : decode cX9_runCommand 101 = .ok (.aload_n 0, 1) := by decide +kernel
theorem dX9_runCommand_102 : decode cX9_runCommand 102 = .ok (.getfield 36, 3) := by decide +kernel
theorem dX9_runCommand_105 : decode cX9_runCommand 105 = .ok (.getfield 273, 3) := by decide +kernel
theorem dX9_runCommand_108 : decode cX9_runCommand 108 = .ok (.invokevirtual 68, 3) := by decide +kernel
theorem dX9_runCommand_111 : decode cX9_runCommand 111 = .ok (.ireturn, 1) := by decide +kernel
theorem dX9_runCommand_112 : decode cX9_runCommand 112 = .ok (.aload_n 0, 1) := by decide +kernel
theorem dX9_runCommand_113 : decode cX9_runCommand 113 = .ok (.getfield 12, 3) := by decide +kernel
theorem dX9_runCommand_116 : decode cX9_runCommand 116 = .ok (.aload_n 0, 1) := by decide +kernel
theorem dX9_runCommand_117 : decode cX9_runCommand 117 = .ok (.getfield 36, 3) := by decide +kernel
theorem dX9_runCommand_120 : decode cX9_runCommand 120 = .ok (.getfield 274, 3) := by decide +kernel
theorem dX9_runCommand_123 : decode cX9_runCommand 123 = .ok (.invokevirtual 77, 3) := by decide +kernel
theorem dX9_runCommand_126 : decode cX9_runCommand 126 = .ok (.ireturn, 1) := by decide +kernel
theorem dX9_runCommand_127 : decode cX9_runCommand 127 = .ok (.aload_n 0, 1) := by decide +kernel
theorem dX9_runCommand_128 : decode cX9_runCommand 128 = .ok (.getfield 12, 3) := by decide +kernel
theorem dX9_runCommand_131 : decode cX9_runCommand 131 = .ok (.aload_n 0, 1) := by decide +kernel
theorem dX9_runCommand_132 : decode cX9_runCommand 132 = .ok (.getfield 36, 3) := by decide +kernel
theorem dX9_runCommand_135 : decode cX9_runCommand 135 = .ok (.getfield 277, 3) := by decide +kernel
theorem dX9_runCommand_138 : decode cX9_runCommand 138 = .ok (.invokevirtual 80, 3) := by decide +kernel
theorem dX9_runCommand_141 : decode cX9_runCommand 141 = .ok (.ireturn, 1) := by decide +kernel
theorem dX9_isRack_0 : decode cX9_isRack 0 = .ok (.iload_n 0, 1) := by decide +kernel
theorem dX9_isRack_1 : decode cX9_isRack 1 = .ok (.ifCond .lt 12, 3) := by decide +kernel
theorem dX9_isRack_4 : decode cX9_isRack 4 = .ok (.iload_n 0, 1) := by decide +kernel
theorem dX9_isRack_5 : decode cX9_isRack 5 = .ok (.iconst 4, 1) := by decide +kernel
theorem dX9_isRack_6 : decode cX9_isRack 6 = .ok (.if_icmp .ge 7, 3) := by decide +kernel
theorem dX9_isRack_9 : decode cX9_isRack 9 = .ok (.iconst 1, 1) := by decide +kernel
theorem dX9_isRack_10 : decode cX9_isRack 10 = .ok (.goto 4, 3) := by decide +kernel
theorem dX9_isRack_13 : decode cX9_isRack 13 = .ok (.iconst 0, 1) := by decide +kernel
theorem dX9_isRack_14 : decode cX9_isRack 14 = .ok (.ireturn, 1) := by decide +kernel
theorem dX9_isSort_0 : decode cX9_isSort 0 = .ok (.iload_n 0, 1) := by decide +kernel
theorem dX9_isSort_1 : decode cX9_isSort 1 = .ok (.ifCond .lt 12, 3) := by decide +kernel
theorem dX9_isSort_4 : decode cX9_isSort 4 = .ok (.iload_n 0, 1) := by decide +kernel
theorem dX9_isSort_5 : decode cX9_isSort 5 = .ok (.iconst 3, 1) := by decide +kernel
theorem dX9_isSort_6 : decode cX9_isSort 6 = .ok (.if_icmp .ge 7, 3) := by decide +kernel
theorem dX9_isSort_9 : decode cX9_isSort 9 = .ok (.iconst 1, 1) := by decide +kernel
theorem dX9_isSort_10 : decode cX9_isSort 10 = .ok (.goto 4, 3) := by decide +kernel
theorem dX9_isSort_13 : decode cX9_isSort 13 = .ok (.iconst 0, 1) := by decide +kernel
theorem dX9_isSort_14 : decode cX9_isSort 14 = .ok (.ireturn, 1) := by decide +kernel
theorem dX9_isChoice_0 : decode cX9_isChoice 0 = .ok (.iload_n 0, 1) := by decide +kernel
theorem dX9_isChoice_1 : decode cX9_isChoice 1 = .ok (.ifCond .lt 12, 3) := by decide +kernel
theorem dX9_isChoice_4 : decode cX9_isChoice 4 = .ok (.iload_n 0, 1) := by decide +kernel
theorem dX9_isChoice_5 : decode cX9_isChoice 5 = .ok (.iconst 3, 1) := by decide +kernel
theorem dX9_isChoice_6 : decode cX9_isChoice 6 = .ok (.if_icmp .ge 7, 3) := by decide +kernel
theorem dX9_isChoice_9 : decode cX9_isChoice 9 = .ok (.iconst 1, 1) := by decide +kernel
theorem dX9_isChoice_10 : decode cX9_isChoice 10 = .ok (.goto 4, 3) := by decide +kernel
theorem dX9_isChoice_13 : decode cX9_isChoice 13 = .ok (.iconst 0, 1) := by decide +kernel
theorem dX9_isChoice_14 : decode cX9_isChoice 14 = .ok (.ireturn, 1) := by decide +kernel
theorem dX9_isSide_0 : decode cX9_isSide 0 = .ok (.iload_n 0, 1) := by decide +kernel
theorem dX9_isSide_1 : decode cX9_isSide 1 = .ok (.iconst 1, 1) := by decide +kernel
theorem dX9_isSide_2 : decode cX9_isSide 2 = .ok (.if_icmp .lt 13, 3) := by decide +kernel
theorem dX9_isSide_5 : decode cX9_isSide 5 = .ok (.iload_n 0, 1) := by decide +kernel
theorem dX9_isSide_6 : decode cX9_isSide 6 = .ok (.bipush 99, 2) := by decide +kernel
theorem dX9_isSide_8 : decode cX9_isSide 8 = .ok (.if_icmp .gt 7, 3) := by decide +kernel
theorem dX9_isSide_11 : decode cX9_isSide 11 = .ok (.iconst 1, 1) := by decide +kernel
theorem dX9_isSide_12 : decode cX9_isSide 12 = .ok (.goto 4, 3) := by decide +kernel
theorem dX9_isSide_15 : decode cX9_isSide 15 = .ok (.iconst 0, 1) := by decide +kernel
theorem dX9_isSide_16 : decode cX9_isSide 16 = .ok (.ireturn, 1) := by decide +kernel
