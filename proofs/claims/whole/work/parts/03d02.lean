theorem dX9_cancel_17 : decode cX9_cancel 17 = .ok (.invokevirtual 71, 3) := by decide +kernel
theorem dX9_cancel_20 : decode cX9_cancel 20 = .ok (.invokevirtual 54, 3) := by decide +kernel
theorem dX9_cancel_23 : decode cX9_cancel 23 = .ok (.ireturn, 1) := by decide +kernel
theorem dX9_cut_0 : decode cX9_cut 0 = .ok (.aload_n 0, 1) := by decide +kernel
theorem dX9_cut_1 : decode cX9_cut 1 = .ok (.getfield 16, 3) := by decide +kernel
theorem dX9_cut_4 : decode cX9_cut 4 = .ok (.aload_n 0, 1) := by decide +kernel
theorem dX9_cut_5 : decode cX9_cut 5 = .ok (.getfield 12, 3) := by decide +kernel
theorem dX9_cut_8 : decode cX9_cut 8 = .ok (.invokevirtual 40, 3) := by decide +kernel
theorem dX9_cut_11 : decode cX9_cut 11 = .ok (.aload_n 0, 1) := by decide +kernel
theorem dX9_cut_12 : decode cX9_cut 12 = .ok (.aload_n 0, 1) := by decide +kernel
theorem dX9_cut_13 : decode cX9_cut 13 = .ok (.getfield 12, 3) := by decide +kernel
theorem dX9_cut_16 : decode cX9_cut 16 = .ok (.iload_n 1, 1) := by decide +kernel
theorem dX9_cut_17 : decode cX9_cut 17 = .ok (.iload_n 2, 1) := by decide +kernel
theorem dX9_cut_18 : decode cX9_cut 18 = .ok (.invokevirtual 74, 3) := by decide +kernel
theorem dX9_cut_21 : decode cX9_cut 21 = .ok (.invokevirtual 54, 3) := by decide +kernel
theorem dX9_cut_24 : decode cX9_cut 24 = .ok (.ireturn, 1) := by decide +kernel
theorem dX9_plan_0 : decode cX9_plan 0 = .ok (.aload_n 0, 1) := by decide +kernel
theorem dX9_plan_1 : decode cX9_plan 1 = .ok (.getfield 16, 3) := by decide +kernel
theorem dX9_plan_4 : decode cX9_plan 4 = .ok (.aload_n 0, 1) := by decide +kernel
theorem dX9_plan_5 : decode cX9_plan 5 = .ok (.getfield 12, 3) := by decide +kernel
theorem dX9_plan_8 : decode cX9_plan 8 = .ok (.invokevirtual 40, 3) := by decide +kernel
theorem dX9_plan_11 : decode cX9_plan 11 = .ok (.aload_n 0, 1) := by decide +kernel
theorem dX9_plan_12 : decode cX9_plan 12 = .ok (.aload_n 0, 1) := by decide +kernel
theorem dX9_plan_13 : decode cX9_plan 13 = .ok (.getfield 12, 3) := by decide +kernel
theorem dX9_plan_16 : decode cX9_plan 16 = .ok (.iload_n 1, 1) := by decide +kernel
theorem dX9_plan_17 : decode cX9_plan 17 = .ok (.invokevirtual 77, 3) := by decide +kernel
theorem dX9_plan_20 : decode cX9_plan 20 = .ok (.invokevirtual 54, 3) := by decide +kernel
theorem dX9_plan_23 : decode cX9_plan 23 = .ok (.ireturn, 1) := by decide +kernel
theorem dX9_pass_0 : decode cX9_pass 0 = .ok (.aload_n 0, 1) := by decide +kernel
theorem dX9_pass_1 : decode cX9_pass 1 = .ok (.getfield 16, 3) := by decide +kernel
theorem dX9_pass_4 : decode cX9_pass 4 = .ok (.aload_n 0, 1) := by decide +kernel
theorem dX9_pass_5 : decode cX9_pass 5 = .ok (.getfield 12, 3) := by decide +kernel
theorem dX9_pass_8 : decode cX9_pass 8 = .ok (.invokevirtual 40, 3) := by decide +kernel
theorem dX9_pass_11 : decode cX9_pass 11 = .ok (.aload_n 0, 1) := by decide +kernel
theorem dX9_pass_12 : decode cX9_pass 12 = .ok (.aload_n 0, 1) := by decide +kernel
theorem dX9_pass_13 : decode cX9_pass 13 = .ok (.getfield 12, 3) := by decide +kernel
theorem dX9_pass_16 : decode cX9_pass 16 = .ok (.iload_n 1, 1) := by decide +kernel
theorem dX9_pass_17 : decode cX9_pass 17 = .ok (.invokevirtual 80, 3) := by decide +kernel
theorem dX9_pass_20 : decode cX9_pass 20 = .ok (.invokevirtual 54, 3) := by decide +kernel
theorem dX9_pass_23 : decode cX9_pass 23 = .ok (.ireturn, 1) := by decide +kernel
theorem dX9_perform_0 : decode cX9_perform 0 = .ok (.aload_n 0, 1) := by decide +kernel
theorem dX9_perform_1 : decode cX9_perform 1 = .ok (.getfield 36, 3) := by decide +kernel
theorem dX9_perform_4 : decode cX9_perform 4 = .ok (.invokevirtual 83, 3) := by decide +kernel
theorem dX9_perform_7 : decode cX9_perform 7 = .ok (.istore_n 1, 1) := by decide +kernel
theorem dX9_perform_8 : decode cX9_perform 8 = .ok (.iload_n 1, 1) := by decide +kernel
theorem dX9_perform_9 : decode cX9_perform 9 = .ok (.ifCond .ge 5, 3) := by decide +kernel
theorem dX9_perform_12 : decode cX9_perform 12 = .ok (.iload_n 1, 1) := by decide +kernel
theorem dX9_perform_13 : decode cX9_perform 13 = .ok (.ireturn, 1) := by decide +kernel
theorem dX9_perform_14 : decode cX9_perform 14 = .ok (.aload_n 0, 1) := by decide +kernel
theorem dX9_perform_15 : decode cX9_perform 15 = .ok (.getfield 16, 3) := by decide +kernel
theorem dX9_perform_18 : decode cX9_perform 18 = .ok (.aload_n 0, 1) := by decide +kernel
theorem dX9_perform_19 : decode cX9_perform 19 = .ok (.getfield 12, 3) := by decide +kernel
theorem dX9_perform_22 : decode cX9_perform 22 = .ok (.invokevirtual 40, 3) := by decide +kernel
theorem dX9_perform_25 : decode cX9_perform 25 = .ok (.aload_n 0, 1) := by decide +kernel
theorem dX9_perform_26 : decode cX9_perform 26 = .ok (.getfield 36, 3) := by decide +kernel
theorem dX9_perform_29 : decode cX9_perform 29 = .ok (.invokevirtual 87, 3) := by decide +kernel
theorem dX9_perform_32 : decode cX9_perform 32 = .ok (.iconst 0, 1) := by decide +kernel
theorem dX9_perform_33 : decode cX9_perform 33 = .ok (.istore_n 2, 1) := by decide +kernel
theorem dX9_perform_34 : decode cX9_perform 34 = .ok (.iload_n 2, 1) := by decide +kernel
theorem dX9_perform_35 : decode cX9_perform 35 = .ok (.iload_n 1, 1) := by decide +kernel
theorem dX9_perform_36 : decode cX9_perform 36 = .ok (.if_icmp .ge 44, 3) := by decide +kernel
theorem dX9_perform_39 : decode cX9_perform 39 = .ok (.aload_n 0, 1) := by decide +kernel
theorem dX9_perform_40 : decode cX9_perform 40 = .ok (.getfield 36, 3) := by decide +kernel
theorem dX9_perform_43 : decode cX9_perform 43 = .ok (.invokevirtual 90, 3) := by decide +kernel
theorem dX9_perform_46 : decode cX9_perform 46 = .ok (.aload_n 0, 1) := by decide +kernel
theorem dX9_perform_47 : decode cX9_perform 47 = .ok (.invokevirtual 93, 3) := by decide +kernel
theorem dX9_perform_50 : decode cX9_perform 50 = .ok (.istore_n 3, 1) := by decide +kernel
theorem dX9_perform_51 : decode cX9_perform 51 = .ok (.iload_n 3, 1) := by decide +kernel
theorem dX9_perform_52 : decode cX9_perform 52 = .ok (.ifCond .ge 22, 3) := by decide +kernel
theorem dX9_perform_55 : decode cX9_perform 55 = .ok (.iload_n 3, 1) := by decide +kernel
theorem dX9_perform_56 : decode cX9_perform 56 = .ok (.bipush (-5), 2) := by decide +kernel
theorem dX9_perform_58 : decode cX9_perform 58 = .ok (.if_icmp .eq 16, 3) := by decide +kernel
theorem dX9_perform_61 : decode cX9_perform 61 = .ok (.aload_n 0, 1) := by decide +kernel
theorem dX9_perform_62 : decode cX9_perform 62 = .ok (.getfield 12, 3) := by decide +kernel
theorem dX9_perform_65 : decode cX9_perform 65 = .ok (.aload_n 0, 1) := by decide +kernel
theorem dX9_perform_66 : decode cX9_perform 66 = .ok (.getfield 16, 3) := by decide +kernel
theorem dX9_perform_69 : decode cX9_perform 69 = .ok (.invokevirtual 40, 3) := by decide +kernel
theorem dX9_perform_72 : decode cX9_perform 72 = .ok (.iload_n 3, 1) := by decide +kernel
theorem dX9_perform_73 : decode cX9_perform 73 = .ok (.ireturn, 1) := by decide +kernel
theorem dX9_perform_74 : decode cX9_perform 74 = .ok (.iinc 2 1, 3) := by decide +kernel
theorem dX9_perform_77 : decode cX9_perform 77 = .ok (.goto (-43), 3) := by decide +kernel
theorem dX9_perform_80 : decode cX9_perform 80 = .ok (.aload_n 0, 1) := by decide +kernel
theorem dX9_perform_81 : decode cX9_perform 81 = .ok (.iload_n 1, 1) := by decide +kernel
theorem dX9_perform_82 : decode cX9_perform 82 = .ok (.invokevirtual 54, 3) := by decide +kernel
theorem dX9_perform_85 : decode cX9_perform 85 = .ok (.ireturn, 1) := by decide +kernel
theorem dX9_type_0 : decode cX9_type 0 = .ok (.aload_n 0, 1) := by decide +kernel
theorem dX9_type_1 : decode cX9_type 1 = .ok (.getfield 36, 3) := by decide +kernel
theorem dX9_type_4 : decode cX9_type 4 = .ok (.iload_n 1, 1) := by decide +kernel
theorem dX9_type_5 : decode cX9_type 5 = .ok (.invokevirtual 96, 3) := by decide +kernel
theorem dX9_type_8 : decode cX9_type 8 = .ok (.ireturn, 1) := by decide +kernel
theorem dX9_clearText_0 : decode cX9_clearText 0 = .ok (.aload_n 0, 1) := by decide +kernel
theorem dX9_clearText_1 : decode cX9_clearText 1 = .ok (.getfield 36, 3) := by decide +kernel
theorem dX9_clearText_4 : decode cX9_clearText 4 = .ok (.invokevirtual 100, 3) := by decide +kernel
theorem dX9_clearText_7 : decode cX9_clearText 7 = .ok (.ireturn, 1) := by decide +kernel
theorem dX9_undo_0 : decode cX9_undo 0 = .ok (.aload_n 0, 1) := by decide +kernel
theorem dX9_undo_1 : decode cX9_undo 1 = .ok (.getfield 29, 3) := by decide +kernel
theorem dX9_undo_4 : decode cX9_undo 4 = .ok (.aload_n 0, 1) := by decide +kernel
theorem dX9_undo_5 : decode cX9_undo 5 = .ok (.getfield 12, 3) := by decide +kernel
theorem dX9_undo_8 : decode cX9_undo 8 = .ok (.invokevirtual 103, 3) := by decide +kernel
theorem dX9_undo_11 : decode cX9_undo 11 = .ok (.ireturn, 1) := by decide +kernel
theorem dX9_keep_0 : decode cX9_keep 0 = .ok (.aload_n 0, 1) := by decide +kernel
theorem dX9_keep_1 : decode cX9_keep 1 = .ok (.getfield 19, 3) := by decide +kernel
theorem dX9_keep_4 : decode cX9_keep 4 = .ok (.aload_n 0, 1) := by decide +kernel
theorem dX9_keep_5 : decode cX9_keep 5 = .ok (.getfield 12, 3) := by decide +kernel
theorem dX9_keep_8 : decode cX9_keep 8 = .ok (.invokevirtual 40, 3) := by decide +kernel
theorem dX9_keep_11 : decode cX9_keep 11 = .ok (.aload_n 0, 1) := by decide +kernel
theorem dX9_keep_12 : decode cX9_keep 12 = .ok (.iconst 1, 1) := by decide +kernel
theorem dX9_keep_13 : decode cX9_keep 13 = .ok (.putfield 22, 3) := by decide +kernel
theorem dX9_keep_16 : decode cX9_keep 16 = .ok (.aload_n 0, 1) := by decide +kernel
theorem dX9_keep_17 : decode cX9_keep 17 = .ok (.getfield 12, 3) := by decide +kernel
theorem dX9_keep_20 : decode cX9_keep 20 = .ok (.getfield 107, 3) := by decide +kernel
theorem dX9_keep_23 : decode cX9_keep 23 = .ok (.ireturn, 1) := by decide +kernel
theorem dX9_restore_0 : decode cX9_restore 0 = .ok (.aload_n 0, 1) := by decide +kernel
theorem dX9_restore_1 : decode cX9_restore 1 = .ok (.getfield 22, 3) := by decide +kernel
theorem dX9_restore_4 : decode cX9_restore 4 = .ok (.ifCond .ne 6, 3) := by decide +kernel
theorem dX9_restore_7 : decode cX9_restore 7 = .ok (.bipush (-5), 2) := by decide +kernel
theorem dX9_restore_9 : decode cX9_restore 9 = .ok (.ireturn, 1) := by decide +kernel
theorem dX9_restore_10 : decode cX9_restore 10 = .ok (.aload_n 0, 1) := by decide +kernel
theorem dX9_restore_11 : decode cX9_restore 11 = .ok (.getfield 16, 3) := by decide +kernel
theorem dX9_restore_14 : decode cX9_restore 14 = .ok (.aload_n 0, 1) := by decide +kernel
theorem dX9_restore_15 : decode cX9_restore 15 = .ok (.getfield 12, 3) := by decide +kernel
theorem dX9_restore_18 : decode cX9_restore 18 = .ok (.invokevirtual 40, 3) := by decide +kernel
theorem dX9_restore_21 : decode cX9_restore 21 = .ok (.aload_n 0, 1) := by decide +kernel
theorem dX9_restore_22 : decode cX9_restore 22 = .ok (.getfield 12, 3) := by decide +kernel
theorem dX9_restore_25 : decode cX9_restore 25 = .ok (.aload_n 0, 1) := by decide +kernel
theorem dX9_restore_26 : decode cX9_restore 26 = .ok (.getfield 19, 3) := by decide +kernel
theorem dX9_restore_29 : decode cX9_restore 29 = .ok (.invokevirtual 40, 3) := by decide +kernel
theorem dX9_restore_32 : decode cX9_restore 32 = .ok (.aload_n 0, 1) := by decide +kernel
theorem dX9_restore_33 : decode cX9_restore 33 = .ok (.aload_n 0, 1) := by decide +kernel
theorem dX9_restore_34 : decode cX9_restore 34 = .ok (.getfield 12, 3) := by decide +kernel
theorem dX9_restore_37 : decode cX9_restore 37 = .ok (.getfield 107, 3) := by decide +kernel
theorem dX9_restore_40 : decode cX9_restore 40 = .ok (.invokevirtual 54, 3) := by decide +kernel
theorem dX9_restore_43 : decode cX9_restore 43 = .ok (.ireturn, 1) := by decide +kernel
theorem dX9_sheet_0 : decode cX9_sheet 0 = .ok (.aload_n 0, 1) := by decide +kernel
theorem dX9_sheet_1 : decode cX9_sheet 1 = .ok (.getfield 12, 3) := by decide +kernel
theorem dX9_sheet_4 : decode cX9_sheet 4 = .ok (.getfield 111, 3) := by decide +kernel
theorem dX9_sheet_7 : decode cX9_sheet 7 = .ok (.iload_n 1, 1) := by decide +kernel
theorem dX9_sheet_8 : decode cX9_sheet 8 = .ok (.invokevirtual 115, 3) := by decide +kernel
theorem dX9_sheet_11 : decode cX9_sheet 11 = .ok (.istore_n 3, 1) := by decide +kernel
theorem dX9_sheet_12 : decode cX9_sheet 12 = .ok (.aload_n 0, 1) := by decide +kernel
theorem dX9_sheet_13 : decode cX9_sheet 13 = .ok (.getfield 12, 3) := by decide +kernel
theorem dX9_sheet_16 : decode cX9_sheet 16 = .ok (.getfield 111, 3) := by decide +kernel
theorem dX9_sheet_19 : decode cX9_sheet 19 = .ok (.iload_n 3, 1) := by decide +kernel
theorem dX9_sheet_20 : decode cX9_sheet 20 = .ok (.invokevirtual 120, 3) := by decide +kernel
theorem dX9_sheet_23 : decode cX9_sheet 23 = .ok (.astore 4, 2) := by decide +kernel
theorem dX9_sheet_25 : decode cX9_sheet 25 = .ok (.aload 4, 2) := by decide +kernel
theorem dX9_sheet_27 : decode cX9_sheet 27 = .ok (.ifnonnull 5, 3) := by decide +kernel
theorem dX9_sheet_30 : decode cX9_sheet 30 = .ok (.iconst (-1), 1) := by decide +kernel
theorem dX9_sheet_31 : decode cX9_sheet 31 = .ok (.ireturn, 1) := by decide +kernel
theorem dX9_sheet_32 : decode cX9_sheet 32 = .ok (.iload_n 2, 1) := by decide +kernel
theorem dX9_sheet_33 : decode cX9_sheet 33 = .ok (.tableswitch 80 0 5 #[39, 45, 51, 57, 62, 74], 39) := by decide +kernel
theorem dX9_sheet_72 : decode cX9_sheet 72 = .ok (.aload 4, 2) := by decide +kernel
theorem dX9_sheet_74 : decode cX9_sheet 74 = .ok (.getfield 124, 3) := by decide +kernel
theorem dX9_sheet_77 : decode cX9_sheet 77 = .ok (.ireturn, 1) := by decide +kernel
theorem dX9_sheet_78 : decode cX9_sheet 78 = .ok (.aload 4, 2) := by decide +kernel
theorem dX9_sheet_80 : decode cX9_sheet 80 = .ok (.getfield 129, 3) := by decide +kernel
theorem dX9_sheet_83 : decode cX9_sheet 83 = .ok (.ireturn, 1) := by decide +kernel
theorem dX9_sheet_84 : decode cX9_sheet 84 = .ok (.aload 4, 2) := by decide +kernel
theorem dX9_sheet_86 : decode cX9_sheet 86 = .ok (.getfield 132, 3) := by decide +kernel
theorem dX9_sheet_89 : decode cX9_sheet 89 = .ok (.ireturn, 1) := by decide +kernel
theorem dX9_sheet_90 : decode cX9_sheet 90 = .ok (.iload_n 3, 1) := by decide +kernel
theorem dX9_sheet_91 : decode cX9_sheet 91 = .ok (.bipush 8, 2) := by decide +kernel
theorem dX9_sheet_93 : decode cX9_sheet 93 = .ok (.idiv, 1) := by decide +kernel
theorem dX9_sheet_94 : decode cX9_sheet 94 = .ok (.ireturn, 1) := by decide +kernel
theorem dX9_sheet_95 : decode cX9_sheet 95 = .ok (.aload_n 0, 1) := by decide +kernel
theorem dX9_sheet_96 : decode cX9_sheet 96 = .ok (.getfield 12, 3) := by decide +kernel
theorem dX9_sheet_99 : decode cX9_sheet 99 = .ok (.getfield 111, 3) := by decide +kernel
theorem dX9_sheet_102 : decode cX9_sheet 102 = .ok (.iload_n 3, 1) := by decide +kernel
theorem dX9_sheet_103 : decode cX9_sheet 103 = .ok (.invokevirtual 135, 3) := by decide +kernel
theorem dX9_sheet_106 : decode cX9_sheet 106 = .ok (.ireturn, 1) := by decide +kernel
theorem dX9_sheet_107 : decode cX9_sheet 107 = .ok (.aload 4, 2) := by decide +kernel
theorem dX9_sheet_109 : decode cX9_sheet 109 = .ok (.getfield 138, 3) := by decide +kernel
theorem dX9_sheet_112 : decode cX9_sheet 112 = .ok (.ireturn, 1) := by decide +kernel
theorem dX9_sheet_113 : decode cX9_sheet 113 = .ok (.bipush (-2), 2) := by decide +kernel
theorem dX9_sheet_115 : decode cX9_sheet 115 = .ok (.ireturn, 1) := by decide +kernel
theorem dX9_at_0 : decode cX9_at 0 = .ok (.iload_n 1, 1) := by decide +kernel
theorem dX9_at_1 : decode cX9_at 1 = .ok (.invokestatic 141, 3) := by decide +kernel
theorem dX9_at_4 : decode cX9_at 4 = .ok (.ifCond .ne 5, 3) := by decide +kernel
theorem dX9_at_7 : decode cX9_at 7 = .ok (.iconst (-1), 1) := by decide +kernel
theorem dX9_at_8 : decode cX9_at 8 = .ok (.ireturn, 1) := by decide +kernel
theorem dX9_at_9 : decode cX9_at 9 = .ok (.iload_n 2, 1) := by decide +kernel
theorem dX9_at_10 : decode cX9_at 10 = .ok (.ifCond .ge 6, 3) := by decide +kernel
theorem dX9_at_13 : decode cX9_at 13 = .ok (.bipush (-2), 2) := by decide +kernel
theorem dX9_at_15 : decode cX9_at 15 = .ok (.ireturn, 1) := by decide +kernel
theorem dX9_at_16 : decode cX9_at 16 = .ok (.aload_n 0, 1) := by decide +kernel
theorem dX9_at_17 : decode cX9_at 17 = .ok (.getfield 12, 3) := by decide +kernel
theorem dX9_at_20 : decode cX9_at 20 = .ok (.getfield 111, 3) := by decide +kernel
theorem dX9_at_23 : decode cX9_at 23 = .ok (.iload_n 1, 1) := by decide +kernel
theorem dX9_at_24 : decode cX9_at 24 = .ok (.iload_n 2, 1) := by decide +kernel
theorem dX9_at_25 : decode cX9_at 25 = .ok (.invokevirtual 145, 3) := by decide +kernel
theorem dX9_at_28 : decode cX9_at 28 = .ok (.astore_n 3, 1) := by decide +kernel
theorem dX9_at_29 : decode cX9_at 29 = .ok (.aload_n 3, 1) := by decide +kernel
theorem dX9_at_30 : decode cX9_at 30 = .ok (.ifnonnull 8, 3) := by decide +kernel
theorem dX9_at_33 : decode cX9_at 33 = .ok (.bipush (-5), 2) := by decide +kernel
theorem dX9_at_35 : decode cX9_at 35 = .ok (.goto 7, 3) := by decide +kernel
theorem dX9_at_38 : decode cX9_at 38 = .ok (.aload_n 3, 1) := by decide +kernel
theorem dX9_at_39 : decode cX9_at 39 = .ok (.getfield 149, 3) := by decide +kernel
theorem dX9_at_42 : decode cX9_at 42 = .ok (.ireturn, 1) := by decide +kernel
theorem dX9_ordered_0 : decode cX9_ordered 0 = .ok (.aload_n 0, 1) := by decide +kernel
theorem dX9_ordered_1 : decode cX9_ordered 1 = .ok (.getfield 12, 3) := by decide +kernel
theorem dX9_ordered_4 : decode cX9_ordered 4 = .ok (.getfield 152, 3) := by decide +kernel
theorem dX9_ordered_7 : decode cX9_ordered 7 = .ok (.iload_n 1, 1) := by decide +kernel
theorem dX9_ordered_8 : decode cX9_ordered 8 = .ok (.invokevirtual 156, 3) := by decide +kernel
theorem dX9_ordered_11 : decode cX9_ordered 11 = .ok (.astore_n 3, 1) := by decide +kernel
theorem dX9_ordered_12 : decode cX9_ordered 12 = .ok (.aload_n 3, 1) := by decide +kernel
theorem dX9_ordered_13 : decode cX9_ordered 13 = .ok (.ifnonnull 5, 3) := by decide +kernel
theorem dX9_ordered_16 : decode cX9_ordered 16 = .ok (.iconst (-1), 1) := by decide +kernel
theorem dX9_ordered_17 : decode cX9_ordered 17 = .ok (.ireturn, 1) := by decide +kernel
theorem dX9_ordered_18 : decode cX9_ordered 18 = .ok (.iload_n 2, 1) := by decide +kernel
theorem dX9_ordered_19 : decode cX9_ordered 19 = .ok (.tableswitch 100 0 7 #[45, 50, 55, 60, 65, 70, 75, 80], 45) := by decide +kernel
theorem dX9_ordered_64 : decode cX9_ordered 64 = .ok (.aload_n 3, 1) := by decide +kernel
theorem dX9_ordered_65 : decode cX9_ordered 65 = .ok (.getfield 162, 3) := by decide +kernel
theorem dX9_ordered_68 : decode cX9_ordered 68 = .ok (.ireturn, 1) := by decide +kernel
theorem dX9_ordered_69 : decode cX9_ordered 69 = .ok (.aload_n 3, 1) := by decide +kernel
theorem dX9_ordered_70 : decode cX9_ordered 70 = .ok (.getfield 165, 3) := by decide +kernel
theorem dX9_ordered_73 : decode cX9_ordered 73 = .ok (.ireturn, 1) := by decide +kernel
theorem dX9_ordered_74 : decode cX9_ordered 74 = .ok (.aload_n 3, 1) := by decide +kernel
theorem dX9_ordered_75 : decode cX9_ordered 75 = .ok (.getfield 166, 3) := by decide +kernel
theorem dX9_ordered_78 : decode cX9_ordered 78 = .ok (.ireturn, 1) := by decide +kernel
theorem dX9_ordered_79 : decode cX9_ordered 79 = .ok (.aload_n 3, 1) := by decide +kernel
theorem dX9_ordered_80 : decode cX9_ordered 80 = .ok (.getfield 167, 3) := by decide +kernel
theorem dX9_ordered_83 : decode cX9_ordered 83 = .ok (.ireturn, 1) := by decide +kernel
theorem dX9_ordered_84 : decode cX9_ordered 84 = .ok (.aload_n 3, 1) := by decide +kernel
theorem dX9_ordered_85 : decode cX9_ordered 85 = .ok (.getfield 168, 3) := by decide +kernel
theorem dX9_ordered_88 : decode cX9_ordered 88 = .ok (.ireturn, 1) := by decide +kernel
theorem dX9_ordered_89 : decode cX9_ordered 89 = .ok (.aload_n 3, 1) := by decide +kernel
theorem dX9_ordered_90 : decode cX9_ordered 90 = .ok (.getfield 171, 3) := by decide +kernel
theorem dX9_ordered_93 : decode cX9_ordered 93 = .ok (.ireturn, 1) := by decide +kernel
theorem dX9_ordered_94 : decode cX9_ordered 94 = .ok (.aload_n 3, 1) := by decide +kernel
theorem dX9_ordered_95 : decode cX9_ordered 95 = .ok (.getfield 172, 3) := by decide +kernel
theorem dX9_ordered_98 : decode cX9_ordered 98 = .ok (.ireturn, 1) := by decide +kernel
theorem dX9_ordered_99 : decode cX9_ordered 99 = .ok (.aload_n 3, 1) := by decide +kernel
theorem dX9_ordered_100 : decode cX9_ordered 100 = .ok (.aload_n 0, 1) := by decide +kernel
theorem dX9_ordered_101 : decode cX9_ordered 101 = .ok (.getfield 12, 3) := by decide +kernel
theorem dX9_ordered_104 : decode cX9_ordered 104 = .ok (.getfield 107, 3) := by decide +kernel
theorem dX9_ordered_107 : decode cX9_ordered 107 = .ok (.invokevirtual 175, 3) := by decide +kernel
theorem dX9_ordered_110 : decode cX9_ordered 110 = .ok (.ifCond .eq 7, 3) := by decide +kernel
theorem dX9_ordered_113 : decode cX9_ordered 113 = .ok (.iconst 1, 1) := by decide +kernel
theorem dX9_ordered_114 : decode cX9_ordered 114 = .ok (.goto 4, 3) := by decide +kernel
theorem dX9_ordered_117 : decode cX9_ordered 117 = .ok (.iconst 0, 1) := by decide +kernel
theorem dX9_ordered_118 : decode cX9_ordered 118 = .ok (.ireturn, 1) := by decide +kernel
theorem dX9_ordered_119 : decode cX9_ordered 119 = .ok (.bipush (-2), 2) := by decide +kernel
theorem dX9_ordered_121 : decode cX9_ordered 121 = .ok (.ireturn, 1) := by decide +kernel
theorem dX9_would_0 : decode cX9_would 0 = .ok (.aload_n 0, 1) := by decide +kernel
theorem dX9_would_1 : decode cX9_would 1 = .ok (.getfield 12, 3) := by decide +kernel
theorem dX9_would_4 : decode cX9_would 4 = .ok (.getfield 152, 3) := by decide +kernel
theorem dX9_would_7 : decode cX9_would 7 = .ok (.iload_n 1, 1) := by decide +kernel
theorem dX9_would_8 : decode cX9_would 8 = .ok (.invokevirtual 156, 3) := by decide +kernel
theorem dX9_would_11 : decode cX9_would 11 = .ok (.astore 4, 2) := by decide +kernel
theorem dX9_would_13 : decode cX9_would 13 = .ok (.aload_n 0, 1) := by decide +kernel
theorem dX9_would_14 : decode cX9_would 14 = .ok (.getfield 12, 3) := by decide +kernel
theorem dX9_would_17 : decode cX9_would 17 = .ok (.getfield 111, 3) := by decide +kernel
theorem dX9_would_20 : decode cX9_would 20 = .ok (.iload_n 2, 1) := by decide +kernel
theorem dX9_would_21 : decode cX9_would 21 = .ok (.invokevirtual 115, 3) := by decide +kernel
theorem dX9_would_24 : decode cX9_would 24 = .ok (.istore 5, 2) := by decide +kernel
theorem dX9_would_26 : decode cX9_would 26 = .ok (.aload_n 0, 1) := by decide +kernel
theorem dX9_would_27 : decode cX9_would 27 = .ok (.getfield 12, 3) := by decide +kernel
theorem dX9_would_30 : decode cX9_would 30 = .ok (.getfield 111, 3) := by decide +kernel
theorem dX9_would_33 : decode cX9_would 33 = .ok (.iload 5, 2) := by decide +kernel
theorem dX9_would_35 : decode cX9_would 35 = .ok (.invokevirtual 120, 3) := by decide +kernel
theorem dX9_would_38 : decode cX9_would 38 = .ok (.astore 6, 2) := by decide +kernel
theorem dX9_would_40 : decode cX9_would 40 = .ok (.aload 4, 2) := by decide +kernel
theorem dX9_would_42 : decode cX9_would 42 = .ok (.ifnull 8, 3) := by decide +kernel
theorem dX9_would_45 : decode cX9_would 45 = .ok (.aload 6, 2) := by decide +kernel
theorem dX9_would_47 : decode cX9_would 47 = .ok (.ifnonnull 5, 3) := by decide +kernel
theorem dX9_would_50 : decode cX9_would 50 = .ok (.iconst (-1), 1) := by decide +kernel
theorem dX9_would_51 : decode cX9_would 51 = .ok (.ireturn, 1) := by decide +kernel
theorem dX9_would_52 : decode cX9_would 52 = .ok (.iload_n 3, 1) := by decide +kernel
theorem dX9_would_53 : decode cX9_would 53 = .ok (.ifCond .lt 9, 3) := by decide +kernel
theorem dX9_would_56 : decode cX9_would 56 = .ok (.iload_n 3, 1) := by decide +kernel
theorem dX9_would_57 : decode cX9_would 57 = .ok (.bipush 6, 2) := by decide +kernel
theorem dX9_would_59 : decode cX9_would 59 = .ok (.if_icmp .le 6, 3) := by decide +kernel
theorem dX9_would_62 : decode cX9_would 62 = .ok (.bipush (-2), 2) := by decide +kernel
theorem dX9_would_64 : decode cX9_would 64 = .ok (.ireturn, 1) := by decide +kernel
theorem dX9_would_65 : decode cX9_would 65 = .ok (.aload_n 0, 1) := by decide +kernel
theorem dX9_would_66 : decode cX9_would 66 = .ok (.getfield 12, 3) := by decide +kernel
theorem dX9_would_69 : decode cX9_would 69 = .ok (.getfield 178, 3) := by decide +kernel
theorem dX9_would_72 : decode cX9_would 72 = .ok (.astore 7, 2) := by decide +kernel
theorem dX9_would_74 : decode cX9_would 74 = .ok (.aload 7, 2) := by decide +kernel
theorem dX9_would_76 : decode cX9_would 76 = .ok (.aload 4, 2) := by decide +kernel
theorem dX9_would_78 : decode cX9_would 78 = .ok (.aload 6, 2) := by decide +kernel
theorem dX9_would_80 : decode cX9_would 80 = .ok (.aload_n 0, 1) := by decide +kernel
theorem dX9_would_81 : decode cX9_would 81 = .ok (.getfield 12, 3) := by decide +kernel
theorem dX9_would_84 : decode cX9_would 84 = .ok (.getfield 44, 3) := by decide +kernel
theorem dX9_would_87 : decode cX9_would 87 = .ok (.invokevirtual 182, 3) := by decide +kernel
theorem dX9_would_90 : decode cX9_would 90 = .ok (.ifCond .ne 6, 3) := by decide +kernel
theorem dX9_would_93 : decode cX9_would 93 = .ok (.bipush (-5), 2) := by decide +kernel
theorem dX9_would_95 : decode cX9_would 95 = .ok (.ireturn, 1) := by decide +kernel
theorem dX9_would_96 : decode cX9_would 96 = .ok (.iload_n 3, 1) := by decide +kernel
theorem dX9_would_97 : decode cX9_would 97 = .ok (.tableswitch 83 0 5 #[39, 53, 59, 65, 71, 77], 39) := by decide +kernel
theorem dX9_would_136 : decode cX9_would 136 = .ok (.aload 7, 2) := by decide +kernel
theorem dX9_would_138 : decode cX9_would 138 = .ok (.getfield 188, 3) := by decide +kernel
theorem dX9_would_141 : decode cX9_would 141 = .ok (.ifCond .eq 7, 3) := by decide +kernel
theorem dX9_would_144 : decode cX9_would 144 = .ok (.iconst 1, 1) := by decide +kernel
theorem dX9_would_145 : decode cX9_would 145 = .ok (.goto 4, 3) := by decide +kernel
theorem dX9_would_148 : decode cX9_would 148 = .ok (.iconst 0, 1) := by decide +kernel
theorem dX9_would_149 : decode cX9_would 149 = .ok (.ireturn, 1) := by decide +kernel
theorem dX9_would_150 : decode cX9_would 150 = .ok (.aload 7, 2) := by decide +kernel
theorem dX9_would_152 : decode cX9_would 152 = .ok (.getfield 191, 3) := by decide +kernel
theorem dX9_would_155 : decode cX9_would 155 = .ok (.ireturn, 1) := by decide +kernel
theorem dX9_would_156 : decode cX9_would 156 = .ok (.aload 7, 2) := by decide +kernel
theorem dX9_would_158 : decode cX9_would 158 = .ok (.getfield 194, 3) := by decide +kernel
theorem dX9_would_161 : decode cX9_would 161 = .ok (.ireturn, 1) := by decide +kernel
theorem dX9_would_162 : decode cX9_would 162 = .ok (.aload 7, 2) := by decide +kernel
theorem dX9_would_164 : decode cX9_would 164 = .ok (.getfield 197, 3) := by decide +kernel
theorem dX9_would_167 : decode cX9_would 167 = .ok (.ireturn, 1) := by decide +kernel
theorem dX9_would_168 : decode cX9_would 168 = .ok (.aload 7, 2) := by decide +kernel
theorem dX9_would_170 : decode cX9_would 170 = .ok (.getfield 200, 3) := by decide +kernel
theorem dX9_would_173 : decode cX9_would 173 = .ok (.ireturn, 1) := by decide +kernel
theorem dX9_would_174 : decode cX9_would 174 = .ok (.aload 7, 2) := by decide +kernel
theorem dX9_would_176 : decode cX9_would 176 = .ok (.getfield 203, 3) := by decide +kernel
theorem dX9_would_179 : decode cX9_would 179 = .ok (.ireturn, 1) := by decide +kernel
theorem dX9_would_180 : decode cX9_would 180 = .ok (.aload_n 0, 1) := by decide +kernel
theorem dX9_would_181 : decode cX9_would 181 = .ok (.getfield 12, 3) := by decide +kernel
theorem dX9_would_184 : decode cX9_would 184 = .ok (.getfield 111, 3) := by decide +kernel
theorem dX9_would_187 : decode cX9_would 187 = .ok (.iload 5, 2) := by decide +kernel
theorem dX9_would_189 : decode cX9_would 189 = .ok (.invokevirtual 135, 3) := by decide +kernel
theorem dX9_would_192 : decode cX9_would 192 = .ok (.iconst 1, 1) := by decide +kernel
theorem dX9_would_193 : decode cX9_would 193 = .ok (.iadd, 1) := by decide +kernel
theorem dX9_would_194 : decode cX9_would 194 = .ok (.ireturn, 1) := by decide +kernel
theorem dX9_choice_0 : decode cX9_choice 0 = .ok (.aload_n 0, 1) := by decide +kernel
theorem dX9_choice_1 : decode cX9_choice 1 = .ok (.getfield 12, 3) := by decide +kernel
theorem dX9_choice_4 : decode cX9_choice 4 = .ok (.getfield 152, 3) := by decide +kernel
theorem dX9_choice_7 : decode cX9_choice 7 = .ok (.iload_n 1, 1) := by decide +kernel
theorem dX9_choice_8 : decode cX9_choice 8 = .ok (.invokevirtual 156, 3) := by decide +kernel
theorem dX9_choice_11 : decode cX9_choice 11 = .ok (.astore_n 3, 1) := by decide +kernel
theorem dX9_choice_12 : decode cX9_choice 12 = .ok (.aload_n 3, 1) := by decide +kernel
theorem dX9_choice_13 : decode cX9_choice 13 = .ok (.ifnonnull 5, 3) := by decide +kernel
theorem dX9_choice_16 : decode cX9_choice 16 = .ok (.iconst (-1), 1) := by decide +kernel
theorem dX9_choice_17 : decode cX9_choice 17 = .ok (.ireturn, 1) := by decide +kernel
theorem dX9_choice_18 : decode cX9_choice 18 = .ok (.iload_n 2, 1) := by decide +kernel
theorem dX9_choice_19 : decode cX9_choice 19 = .ok (.invokestatic 206, 3) := by decide +kernel
theorem dX9_choice_22 : decode cX9_choice 22 = .ok (.ifCond .ne 6, 3) := by decide +kernel
theorem dX9_choice_25 : decode cX9_choice 25 = .ok (.bipush (-2), 2) := by decide +kernel
theorem dX9_choice_27 : decode cX9_choice 27 = .ok (.ireturn, 1) := by decide +kernel
theorem dX9_choice_28 : decode cX9_choice 28 = .ok (.aload_n 3, 1) := by decide +kernel
theorem dX9_choice_29 : decode cX9_choice 29 = .ok (.invokevirtual 209, 3) := by decide +kernel
theorem dX9_choice_32 : decode cX9_choice 32 = .ok (.ifCond .ne 6, 3) := by decide +kernel
theorem dX9_choice_35 : decode cX9_choice 35 = .ok (.bipush (-4), 2) := by decide +kernel
theorem dX9_choice_37 : decode cX9_choice 37 = .ok (.ireturn, 1) := by decide +kernel
theorem dX9_choice_38 : decode cX9_choice 38 = .ok (.aload_n 0, 1) := by decide +kernel
theorem dX9_choice_39 : decode cX9_choice 39 = .ok (.getfield 12, 3) := by decide +kernel
theorem dX9_choice_42 : decode cX9_choice 42 = .ok (.aload_n 3, 1) := by decide +kernel
theorem dX9_choice_43 : decode cX9_choice 43 = .ok (.iload_n 2, 1) := by decide +kernel
theorem dX9_choice_44 : decode cX9_choice 44 = .ok (.invokevirtual 213, 3) := by decide +kernel
theorem dX9_choice_47 : decode cX9_choice 47 = .ok (.astore 4, 2) := by decide +kernel
theorem dX9_choice_49 : decode cX9_choice 49 = .ok (.aload 4, 2) := by decide +kernel
theorem dX9_choice_51 : decode cX9_choice 51 = .ok (.ifnonnull 8, 3) := by decide +kernel
theorem dX9_choice_54 : decode cX9_choice 54 = .ok (.bipush (-5), 2) := by decide +kernel
theorem dX9_choice_56 : decode cX9_choice 56 = .ok (.goto 8, 3) := by decide +kernel
theorem dX9_choice_59 : decode cX9_choice 59 = .ok (.aload 4, 2) := by decide +kernel
theorem dX9_choice_61 : decode cX9_choice 61 = .ok (.getfield 149, 3) := by decide +kernel
theorem dX9_choice_64 : decode cX9_choice 64 = .ok (.ireturn, 1) := by decide +kernel
theorem dX9_next_0 : decode cX9_next 0 = .ok (.iload_n 1, 1) := by decide +kernel
theorem dX9_next_1 : decode cX9_next 1 = .ok (.ifCond .ge 6, 3) := by decide +kernel
theorem dX9_next_4 : decode cX9_next 4 = .ok (.bipush (-2), 2) := by decide +kernel
theorem dX9_next_6 : decode cX9_next 6 = .ok (.ireturn, 1) := by decide +kernel
theorem dX9_next_7 : decode cX9_next 7 = .ok (.aload_n 0, 1) := by decide +kernel
theorem dX9_next_8 : decode cX9_next 8 = .ok (.getfield 12, 3) := by decide +kernel
theorem dX9_next_11 : decode cX9_next 11 = .ok (.getfield 152, 3) := by decide +kernel
theorem dX9_next_14 : decode cX9_next 14 = .ok (.iload_n 1, 1) := by decide +kernel
theorem dX9_next_15 : decode cX9_next 15 = .ok (.invokevirtual 217, 3) := by decide +kernel
theorem dX9_next_18 : decode cX9_next 18 = .ok (.astore_n 2, 1) := by decide +kernel
theorem dX9_next_19 : decode cX9_next 19 = .ok (.aload_n 2, 1) := by decide +kernel
theorem dX9_next_20 : decode cX9_next 20 = .ok (.ifnonnull 8, 3) := by decide +kernel
theorem dX9_next_23 : decode cX9_next 23 = .ok (.bipush (-5), 2) := by decide +kernel
theorem dX9_next_25 : decode cX9_next 25 = .ok (.goto 7, 3) := by decide +kernel
theorem dX9_next_28 : decode cX9_next 28 = .ok (.aload_n 2, 1) := by decide +kernel
theorem dX9_next_29 : decode cX9_next 29 = .ok (.getfield 220, 3) := by decide +kernel
theorem dX9_next_32 : decode cX9_next 32 = .ok (.ireturn, 1) := by decide +kernel
theorem dX9_wouldPlan_0 : decode cX9_wouldPlan 0 = .ok (.iload_n 1, 1) := by decide +kernel
theorem dX9_wouldPlan_1 : decode cX9_wouldPlan 1 = .ok (.invokestatic 206, 3) := by decide +kernel
theorem dX9_wouldPlan_4 : decode cX9_wouldPlan 4 = .ok (.ifCond .eq 12, 3) := by decide +kernel
theorem dX9_wouldPlan_7 : decode cX9_wouldPlan 7 = .ok (.iload_n 2, 1) := by decide +kernel
theorem dX9_wouldPlan_8 : decode cX9_wouldPlan 8 = .ok (.ifCond .lt 8, 3) := by decide +kernel
theorem dX9_wouldPlan_11 : decode cX9_wouldPlan 11 = .ok (.iload_n 2, 1) := by decide +kernel
theorem dX9_wouldPlan_12 : decode cX9_wouldPlan 12 = .ok (.iconst 3, 1) := by decide +kernel
theorem dX9_wouldPlan_13 : decode cX9_wouldPlan 13 = .ok (.if_icmp .le 6, 3) := by decide +kernel
theorem dX9_wouldPlan_16 : decode cX9_wouldPlan 16 = .ok (.bipush (-2), 2) := by decide +kernel
theorem dX9_wouldPlan_18 : decode cX9_wouldPlan 18 = .ok (.ireturn, 1) := by decide +kernel
theorem dX9_wouldPlan_19 : decode cX9_wouldPlan 19 = .ok (.aload_n 0, 1) := by decide +kernel
theorem dX9_wouldPlan_20 : decode cX9_wouldPlan 20 = .ok (.getfield 16, 3) := by decide +kernel
theorem dX9_wouldPlan_23 : decode cX9_wouldPlan 23 = .ok (.astore_n 3, 1) := by decide +kernel
theorem dX9_wouldPlan_24 : decode cX9_wouldPlan 24 = .ok (.aload_n 3, 1) := by decide +kernel
theorem dX9_wouldPlan_25 : decode cX9_wouldPlan 25 = .ok (.aload_n 0, 1) := by decide +kernel
theorem dX9_wouldPlan_26 : decode cX9_wouldPlan 26 = .ok (.getfield 12, 3) := by decide +kernel
theorem dX9_wouldPlan_29 : decode cX9_wouldPlan 29 = .ok (.invokevirtual 40, 3) := by decide +kernel
theorem dX9_wouldPlan_32 : decode cX9_wouldPlan 32 = .ok (.aload_n 3, 1) := by decide +kernel
theorem dX9_wouldPlan_33 : decode cX9_wouldPlan 33 = .ok (.iload_n 1, 1) := by decide +kernel
theorem dX9_wouldPlan_34 : decode cX9_wouldPlan 34 = .ok (.invokevirtual 77, 3) := by decide +kernel
theorem dX9_wouldPlan_37 : decode cX9_wouldPlan 37 = .ok (.istore 4, 2) := by decide +kernel
theorem dX9_wouldPlan_39 : decode cX9_wouldPlan 39 = .ok (.iload_n 2, 1) := by decide +kernel
theorem dX9_wouldPlan_40 : decode cX9_wouldPlan 40 = .ok (.tableswitch 66 0 2 #[28, 40, 53], 28) := by decide +kernel
theorem dX9_wouldPlan_68 : decode cX9_wouldPlan 68 = .ok (.iload 4, 2) := by decide +kernel
theorem dX9_wouldPlan_70 : decode cX9_wouldPlan 70 = .ok (.ifCond .ge 7, 3) := by decide +kernel
theorem dX9_wouldPlan_73 : decode cX9_wouldPlan 73 = .ok (.iconst 0, 1) := by decide +kernel
theorem dX9_wouldPlan_74 : decode cX9_wouldPlan 74 = .ok (.goto 5, 3) := by decide +kernel
theorem dX9_wouldPlan_77 : decode cX9_wouldPlan 77 = .ok (.iload 4, 2) := by decide +kernel
theorem dX9_wouldPlan_79 : decode cX9_wouldPlan 79 = .ok (.ireturn, 1) := by decide +kernel
theorem dX9_wouldPlan_80 : decode cX9_wouldPlan 80 = .ok (.aload_n 3, 1) := by decide +kernel
theorem dX9_wouldPlan_81 : decode cX9_wouldPlan 81 = .ok (.getfield 221, 3) := by decide +kernel
theorem dX9_wouldPlan_84 : decode cX9_wouldPlan 84 = .ok (.aload_n 0, 1) := by decide +kernel
theorem dX9_wouldPlan_85 : decode cX9_wouldPlan 85 = .ok (.getfield 12, 3) := by decide +kernel
theorem dX9_wouldPlan_88 : decode cX9_wouldPlan 88 = .ok (.getfield 221, 3) := by decide +kernel
theorem dX9_wouldPlan_91 : decode cX9_wouldPlan 91 = .ok (.isub, 1) := by decide +kernel
theorem dX9_wouldPlan_92 : decode cX9_wouldPlan 92 = .ok (.ireturn, 1) := by decide +kernel
theorem dX9_wouldPlan_93 : decode cX9_wouldPlan 93 = .ok (.aload_n 3, 1) := by decide +kernel
theorem dX9_wouldPlan_94 : decode cX9_wouldPlan 94 = .ok (.getfield 222, 3) := by decide +kernel
theorem dX9_wouldPlan_97 : decode cX9_wouldPlan 97 = .ok (.aload_n 0, 1) := by decide +kernel
theorem dX9_wouldPlan_98 : decode cX9_wouldPlan 98 = .ok (.getfield 12, 3) := by decide +kernel
theorem dX9_wouldPlan_101 : decode cX9_wouldPlan 101 = .ok (.getfield 222, 3) := by decide +kernel
theorem dX9_wouldPlan_104 : decode cX9_wouldPlan 104 = .ok (.isub, 1) := by decide +kernel
theorem dX9_wouldPlan_105 : decode cX9_wouldPlan 105 = .ok (.ireturn, 1) := by decide +kernel
theorem dX9_wouldPlan_106 : decode cX9_wouldPlan 106 = .ok (.aload_n 3, 1) := by decide +kernel
theorem dX9_wouldPlan_107 : decode cX9_wouldPlan 107 = .ok (.getfield 225, 3) := by decide +kernel
theorem dX9_wouldPlan_110 : decode cX9_wouldPlan 110 = .ok (.aload_n 0, 1) := by decide +kernel
theorem dX9_wouldPlan_111 : decode cX9_wouldPlan 111 = .ok (.getfield 12, 3) := by decide +kernel
theorem dX9_wouldPlan_114 : decode cX9_wouldPlan 114 = .ok (.getfield 225, 3) := by decide +kernel
theorem dX9_wouldPlan_117 : decode cX9_wouldPlan 117 = .ok (.isub, 1) := by decide +kernel
theorem dX9_wouldPlan_118 : decode cX9_wouldPlan 118 = .ok (.ireturn, 1) := by decide +kernel
theorem dX9_count_0 : decode cX9_count 0 = .ok (.iload_n 1, 1) := by decide +kernel
theorem dX9_count_1 : decode cX9_count 1 = .ok (.tableswitch 275 0 24 #[115, 123, 134, 145, 153, 161, 169, 177, 185, 193, 204, 215, 233, 244, 252, 275, 275, 275, 275, 275, 260, 260, 260, 260, 260], 115) := by decide +kernel
theorem dX9_count_116 : decode cX9_count 116 = .ok (.aload_n 0, 1) := by decide +kernel
theorem dX9_count_117 : decode cX9_count 117 = .ok (.getfield 12, 3) := by decide +kernel
theorem dX9_count_120 : decode cX9_count 120 = .ok (.getfield 107, 3) := by decide +kernel
theorem dX9_count_123 : decode cX9_count 123 = .ok (.ireturn, 1) := by decide +kernel
theorem dX9_count_124 : decode cX9_count 124 = .ok (.aload_n 0, 1) := by decide +kernel
theorem dX9_count_125 : decode cX9_count 125 = .ok (.getfield 12, 3) := by decide +kernel
theorem dX9_count_128 : decode cX9_count 128 = .ok (.getfield 111, 3) := by decide +kernel
theorem dX9_count_131 : decode cX9_count 131 = .ok (.invokevirtual 228, 3) := by decide +kernel
theorem dX9_count_134 : decode cX9_count 134 = .ok (.ireturn, 1) := by decide +kernel
theorem dX9_count_135 : decode cX9_count 135 = .ok (.aload_n 0, 1) := by decide +kernel
theorem dX9_count_136 : decode cX9_count 136 = .ok (.getfield 12, 3) := by decide +kernel
theorem dX9_count_139 : decode cX9_count 139 = .ok (.getfield 111, 3) := by decide +kernel
theorem dX9_count_142 : decode cX9_count 142 = .ok (.invokevirtual 231, 3) := by decide +kernel
theorem dX9_count_145 : decode cX9_count 145 = .ok (.ireturn, 1) := by decide +kernel
theorem dX9_count_146 : decode cX9_count 146 = .ok (.aload_n 0, 1) := by decide +kernel
theorem dX9_count_147 : decode cX9_count 147 = .ok (.getfield 12, 3) := by decide +kernel
theorem dX9_count_150 : decode cX9_count 150 = .ok (.getfield 234, 3) := by decide +kernel
theorem dX9_count_153 : decode cX9_count 153 = .ok (.ireturn, 1) := by decide +kernel
theorem dX9_count_154 : decode cX9_count 154 = .ok (.aload_n 0, 1) := by decide +kernel
theorem dX9_count_155 : decode cX9_count 155 = .ok (.getfield 12, 3) := by decide +kernel
theorem dX9_count_158 : decode cX9_count 158 = .ok (.getfield 237, 3) := by decide +kernel
theorem dX9_count_161 : decode cX9_count 161 = .ok (.ireturn, 1) := by decide +kernel
theorem dX9_count_162 : decode cX9_count 162 = .ok (.aload_n 0, 1) := by decide +kernel
theorem dX9_count_163 : decode cX9_count 163 = .ok (.getfield 12, 3) := by decide +kernel
theorem dX9_count_166 : decode cX9_count 166 = .ok (.getfield 221, 3) := by decide +kernel
theorem dX9_count_169 : decode cX9_count 169 = .ok (.ireturn, 1) := by decide +kernel
theorem dX9_count_170 : decode cX9_count 170 = .ok (.aload_n 0, 1) := by decide +kernel
theorem dX9_count_171 : decode cX9_count 171 = .ok (.getfield 12, 3) := by decide +kernel
theorem dX9_count_174 : decode cX9_count 174 = .ok (.getfield 225, 3) := by decide +kernel
theorem dX9_count_177 : decode cX9_count 177 = .ok (.ireturn, 1) := by decide +kernel
theorem dX9_count_178 : decode cX9_count 178 = .ok (.aload_n 0, 1) := by decide +kernel
theorem dX9_count_179 : decode cX9_count 179 = .ok (.getfield 12, 3) := by decide +kernel
theorem dX9_count_182 : decode cX9_count 182 = .ok (.getfield 240, 3) := by decide +kernel
theorem dX9_count_185 : decode cX9_count 185 = .ok (.ireturn, 1) := by decide +kernel
theorem dX9_count_186 : decode cX9_count 186 = .ok (.aload_n 0, 1) := by decide +kernel
theorem dX9_count_187 : decode cX9_count 187 = .ok (.getfield 12, 3) := by decide +kernel
theorem dX9_count_190 : decode cX9_count 190 = .ok (.getfield 222, 3) := by decide +kernel
theorem dX9_count_193 : decode cX9_count 193 = .ok (.ireturn, 1) := by decide +kernel
theorem dX9_count_194 : decode cX9_count 194 = .ok (.aload_n 0, 1) := by decide +kernel
theorem dX9_count_195 : decode cX9_count 195 = .ok (.getfield 12, 3) := by decide +kernel
theorem dX9_count_198 : decode cX9_count 198 = .ok (.getfield 152, 3) := by decide +kernel
theorem dX9_count_201 : decode cX9_count 201 = .ok (.getfield 241, 3) := by decide +kernel
theorem dX9_count_204 : decode cX9_count 204 = .ok (.ireturn, 1) := by decide +kernel
theorem dX9_count_205 : decode cX9_count 205 = .ok (.aload_n 0, 1) := by decide +kernel
theorem dX9_count_206 : decode cX9_count 206 = .ok (.getfield 12, 3) := by decide +kernel
theorem dX9_count_209 : decode cX9_count 209 = .ok (.getfield 152, 3) := by decide +kernel
theorem dX9_count_212 : decode cX9_count 212 = .ok (.invokevirtual 244, 3) := by decide +kernel
theorem dX9_count_215 : decode cX9_count 215 = .ok (.ireturn, 1) := by decide +kernel
theorem dX9_count_216 : decode cX9_count 216 = .ok (.aload_n 0, 1) := by decide +kernel
theorem dX9_count_217 : decode cX9_count 217 = .ok (.getfield 12, 3) := by decide +kernel
theorem dX9_count_220 : decode cX9_count 220 = .ok (.getfield 152, 3) := by decide +kernel
theorem dX9_count_223 : decode cX9_count 223 = .ok (.aload_n 0, 1) := by decide +kernel
theorem dX9_count_224 : decode cX9_count 224 = .ok (.getfield 12, 3) := by decide +kernel
theorem dX9_count_227 : decode cX9_count 227 = .ok (.getfield 107, 3) := by decide +kernel
theorem dX9_count_230 : decode cX9_count 230 = .ok (.invokevirtual 247, 3) := by decide +kernel
theorem dX9_count_233 : decode cX9_count 233 = .ok (.ireturn, 1) := by decide +kernel
theorem dX9_count_234 : decode cX9_count 234 = .ok (.aload_n 0, 1) := by decide +kernel
theorem dX9_count_235 : decode cX9_count 235 = .ok (.getfield 12, 3) := by decide +kernel
theorem dX9_count_238 : decode cX9_count 238 = .ok (.getfield 111, 3) := by decide +kernel
theorem dX9_count_241 : decode cX9_count 241 = .ok (.getfield 250, 3) := by decide +kernel
theorem dX9_count_244 : decode cX9_count 244 = .ok (.ireturn, 1) := by decide +kernel
theorem dX9_count_245 : decode cX9_count 245 = .ok (.aload_n 0, 1) := by decide +kernel
theorem dX9_count_246 : decode cX9_count 246 = .ok (.getfield 29, 3) := by decide +kernel
theorem dX9_count_249 : decode cX9_count 249 = .ok (.getfield 253, 3) := by decide +kernel
theorem dX9_count_252 : decode cX9_count 252 = .ok (.ireturn, 1) := by decide +kernel
theorem dX9_count_253 : decode cX9_count 253 = .ok (.aload_n 0, 1) := by decide +kernel
theorem dX9_count_254 : decode cX9_count 254 = .ok (.getfield 36, 3) := by decide +kernel
theorem dX9_count_257 : decode cX9_count 257 = .ok (.getfield 255, 3) := by decide +kernel
theorem dX9_count_260 : decode cX9_count 260 = .ok (.ireturn, 1) := by decide +kernel
theorem dX9_count_261 : decode cX9_count 261 = .ok (.aload_n 0, 1) := by decide +kernel
theorem dX9_count_262 : decode cX9_count 262 = .ok (.getfield 12, 3) := by decide +kernel
theorem dX9_count_265 : decode cX9_count 265 = .ok (.getfield 44, 3) := by decide +kernel
theorem dX9_count_268 : decode cX9_count 268 = .ok (.iload_n 1, 1) := by decide +kernel
theorem dX9_count_269 : decode cX9_count 269 = .ok (.bipush 20, 2) := by decide +kernel
theorem dX9_count_271 : decode cX9_count 271 = .ok (.isub, 1) := by decide +kernel
theorem dX9_count_272 : decode cX9_count 272 = .ok (.invokevirtual 258, 3) := by decide +kernel
theorem dX9_count_275 : decode cX9_count 275 = .ok (.ireturn, 1) := by decide +kernel
theorem dX9_count_276 : decode cX9_count 276 = .ok (.bipush (-2), 2) := by decide +kernel
theorem dX9_count_278 : decode cX9_count 278 = .ok (.ireturn, 1) := by decide +kernel
theorem dX9_recorded_0 : decode cX9_recorded 0 = .ok (.iload_n 1, 1) := by decide +kernel
theorem dX9_recorded_1 : decode cX9_recorded 1 = .ok (.ifCond .lt 14, 3) := by decide +kernel
theorem dX9_recorded_4 : decode cX9_recorded 4 = .ok (.aload_n 0, 1) := by decide +kernel
theorem dX9_recorded_5 : decode cX9_recorded 5 = .ok (.getfield 29, 3) := by decide +kernel
theorem dX9_recorded_8 : decode cX9_recorded 8 = .ok (.aload_n 0, 1) := by decide +kernel
theorem dX9_recorded_9 : decode cX9_recorded 9 = .ok (.getfield 16, 3) := by decide +kernel
theorem dX9_recorded_12 : decode cX9_recorded 12 = .ok (.invokevirtual 261, 3) := by decide +kernel
theorem dX9_recorded_15 : decode cX9_recorded 15 = .ok (.iload_n 1, 1) := by decide +kernel
theorem dX9_recorded_16 : decode cX9_recorded 16 = .ok (.ireturn, 1) := by decide +kernel
theorem dX9_runCommand_0 : decode cX9_runCommand 0 = .ok (.aload_n 0, 1) := by decide +kernel
theorem dX9_runCommand_1 : decode cX9_runCommand 1 = .ok (.getfield 36, 3) := by decide +kernel
theorem dX9_runCommand_4 : decode cX9_runCommand 4 = .ok (.getfield 264, 3) := by decide +kernel
theorem dX9_runCommand_7 : decode cX9_runCommand 7 = .ok (.tableswitch 120 111 115 #[69, 105, 120, 120, 33], 33) := by decide +kernel
theorem dX9_runCommand_40 : decode cX9_runCommand 40 = .ok (.aload_n 0, 1) := by decide +kernel
theorem dX9_runCommand_41 : decode cX9_runCommand 41 = .ok (.getfield 12, 3) := by decide +kernel
theorem dX9_runCommand_44 : decode cX9_runCommand 44 = .ok (.aload_n 0, 1) := by decide +kernel
theorem dX9_runCommand_45 : decode cX9_runCommand 45 = .ok (.getfield 36, 3) := by decide +kernel
theorem dX9_runCommand_48 : decode cX9_runCommand 48 = .ok (.getfield 267, 3) := by decide +kernel
theorem dX9_runCommand_51 : decode cX9_runCommand 51 = .ok (.aload_n 0, 1) := by decide +kernel
theorem dX9_runCommand_52 : decode cX9_runCommand 52 = .ok (.getfield 36, 3) := by decide +kernel
theorem dX9_runCommand_55 : decode cX9_runCommand 55 = .ok (.getfield 270, 3) := by decide +kernel
theorem dX9_runCommand_58 : decode cX9_runCommand 58 = .ok (.aload_n 0, 1) := by decide +kernel
theorem dX9_runCommand_59 : decode cX9_runCommand 59 = .ok (.getfield 36, 3) := by decide +kernel
theorem dX9_runCommand_62 : decode cX9_runCommand 62 = .ok (.getfield 271, 3) := by decide +kernel
theorem dX9_runCommand_65 : decode cX9_runCommand 65 = .ok (.aload_n 0, 1) := by decide +kernel
theorem dX9_runCommand_66 : decode cX9_runCommand 66 = .ok (.getfield 36, 3) := by decide +kernel
theorem dX9_runCommand_69 : decode cX9_runCommand 69 = .ok (.getfield 272, 3) := by decide +kernel
theorem dX9_runCommand_72 : decode cX9_runCommand 72 = .ok (.invokevirtual 58, 3) := by decide +kernel
theorem dX9_runCommand_75 : decode cX9_runCommand 75 = .ok (.ireturn, 1) := by decide +kernel
theorem dX9_runCommand_76 : decode cX9_runCommand 76 = .ok (.aload_n 0, 1) := by decide +kernel
theorem dX9_runCommand_77 : decode cX9_runCommand 77 = .ok (.getfield 12, 3) := by decide +kernel
theorem dX9_runCommand_80 : decode cX9_runCommand 80 = .ok (.aload_n 0, 1) := by decide +kernel
theorem dX9_runCommand_81 : decode cX9_runCommand 81 = .ok (.getfield 36, 3) := by decide +kernel
theorem dX9_runCommand_84 : decode cX9_runCommand 84 = .ok (.getfield 270, 3) := by decide +kernel
theorem dX9_runCommand_87 : decode cX9_runCommand 87 = .ok (.aload_n 0, 1) := by decide +kernel
theorem dX9_runCommand_88 : decode cX9_runCommand 88 = .ok (.getfield 36, 3) := by decide +kernel
theorem dX9_runCommand_91 : decode cX9_runCommand 91 = .ok (.getfield 271, 3) := by decide +kernel
theorem dX9_runCommand_94 : decode cX9_runCommand 94 = .ok (.aload_n 0, 1) := by decide +kernel
theorem dX9_runCommand_95 : decode cX9_runCommand 95 = .ok (.getfield 36, 3) := by decide +kernel
theorem dX9_runCommand_98 : decode cX9_runCommand 98 = .ok (.getfield 272, 3) := by decide +kernel
theorem dX9_runCommand_101 : decode cX9_runCommand 101 = .ok (.aload_n 0, 1) := by decide +kernel
theorem dX9_runCommand_102 : decode cX9_runCommand 102 = .ok (.getfield 36, 3) := by decide +kernel
theorem dX9_runCommand_105 : decode cX9_runCommand 105 = .ok (.getfield 273, 3) := by decide +kernel
theorem dX9_runCommand_108 : decode cX9_runCommand 108 = .ok (.invokevirtual 68, 3) := by decide +kernel
theorem dX9_runCommand_111 : decode cX9_runCommand 111 = .ok (.ireturn, 1) := by decide +kernel
theorem dX9_runCommand_112 : decode cX9_runCommand 112 = .ok (.aload_n 0, 1) := by decide +kernel
theorem dX9_runCommand_113 : decode cX9_runCommand 113 = .ok (.getfield 12, 3) := by decide +kernel
theorem dX9_runCommand_116 : decode cX9_runCommand 116 = .ok (.aload_n 0, 1) := by decide +kernel
theorem dX9_runCommand_117 : decode cX9_runCommand 117 = .ok (.getfield 36, 3) := by decide +kernel
theorem dX9_runCommand_120 : decode cX9_runCommand 120 = .ok (.getfield 274, 3) := by decide +kernel
theorem dX9_runCommand_123 : decode cX9_runCommand 123 = .ok (.invokevirtual 77, 3) := by decide +kernel
theorem dX9_runCommand_126 : decode cX9_runCommand 126 = .ok (.ireturn, 1) := by decide +kernel
theorem dX9_runCommand_127 : decode cX9_runCommand 127 = .ok (.aload_n 0, 1) := by decide +kernel
theorem dX9_runCommand_128 : decode cX9_runCommand 128 = .ok (.getfield 12, 3) := by decide +kernel
theorem dX9_runCommand_131 : decode cX9_runCommand 131 = .ok (.aload_n 0, 1) := by decide +kernel
theorem dX9_runCommand_132 : decode cX9_runCommand 132 = .ok (.getfield 36, 3) := by decide +kernel
theorem dX9_runCommand_135 : decode cX9_runCommand 135 = .ok (.getfield 277, 3) := by decide +kernel
theorem dX9_runCommand_138 : decode cX9_runCommand 138 = .ok (.invokevirtual 80, 3) := by decide +kernel
theorem dX9_runCommand_141 : decode cX9_runCommand 141 = .ok (.ireturn, 1) := by decide +kernel
theorem dX9_isRack_0 : decode cX9_isRack 0 = .ok (.iload_n 0, 1) := by decide +kernel
theorem dX9_isRack_1 : decode cX9_isRack 1 = .ok (.ifCond .lt 12, 3) := by decide +kernel
theorem dX9_isRack_4 : decode cX9_isRack 4 = .ok (.iload_n 0, 1) := by decide +kernel
theorem dX9_isRack_5 : decode cX9_isRack 5 = .ok (.iconst 4, 1) := by decide +kernel
theorem dX9_isRack_6 : decode cX9_isRack 6 = .ok (.if_icmp .ge 7, 3) := by decide +kernel
theorem dX9_isRack_9 : decode cX9_isRack 9 = .ok (.iconst 1, 1) := by decide +kernel
theorem dX9_isRack_10 : decode cX9_isRack 10 = .ok (.goto 4, 3) := by decide +kernel
theorem dX9_isRack_13 : decode cX9_isRack 13 = .ok (.iconst 0, 1) := by decide +kernel
theorem dX9_isRack_14 : decode cX9_isRack 14 = .ok (.ireturn, 1) := by decide +kernel
theorem dX9_isSort_0 : decode cX9_isSort 0 = .ok (.iload_n 0, 1) := by decide +kernel
theorem dX9_isSort_1 : decode cX9_isSort 1 = .ok (.ifCond .lt 12, 3) := by decide +kernel
theorem dX9_isSort_4 : decode cX9_isSort 4 = .ok (.iload_n 0, 1) := by decide +kernel
theorem dX9_isSort_5 : decode cX9_isSort 5 = .ok (.iconst 3, 1) := by decide +kernel
theorem dX9_isSort_6 : decode cX9_isSort 6 = .ok (.if_icmp .ge 7, 3) := by decide +kernel
theorem dX9_isSort_9 : decode cX9_isSort 9 = .ok (.iconst 1, 1) := by decide +kernel
theorem dX9_isSort_10 : decode cX9_isSort 10 = .ok (.goto 4, 3) := by decide +kernel
theorem dX9_isSort_13 : decode cX9_isSort 13 = .ok (.iconst 0, 1) := by decide +kernel
theorem dX9_isSort_14 : decode cX9_isSort 14 = .ok (.ireturn, 1) := by decide +kernel
theorem dX9_isChoice_0 : decode cX9_isChoice 0 = .ok (.iload_n 0, 1) := by decide +kernel
theorem dX9_isChoice_1 : decode cX9_isChoice 1 = .ok (.ifCond .lt 12, 3) := by decide +kernel
theorem dX9_isChoice_4 : decode cX9_isChoice 4 = .ok (.iload_n 0, 1) := by decide +kernel
theorem dX9_isChoice_5 : decode cX9_isChoice 5 = .ok (.iconst 3, 1) := by decide +kernel
theorem dX9_isChoice_6 : decode cX9_isChoice 6 = .ok (.if_icmp .ge 7, 3) := by decide +kernel
theorem dX9_isChoice_9 : decode cX9_isChoice 9 = .ok (.iconst 1, 1) := by decide +kernel
theorem dX9_isChoice_10 : decode cX9_isChoice 10 = .ok (.goto 4, 3) := by decide +kernel
theorem dX9_isChoice_13 : decode cX9_isChoice 13 = .ok (.iconst 0, 1) := by decide +kernel
theorem dX9_isChoice_14 : decode cX9_isChoice 14 = .ok (.ireturn, 1) := by decide +kernel
theorem dX9_isSide_0 : decode cX9_isSide 0 = .ok (.iload_n 0, 1) := by decide +kernel
theorem dX9_isSide_1 : decode cX9_isSide 1 = .ok (.iconst 1, 1) := by decide +kernel
theorem dX9_isSide_2 : decode cX9_isSide 2 = .ok (.if_icmp .lt 13, 3) := by decide +kernel
theorem dX9_isSide_5 : decode cX9_isSide 5 = .ok (.iload_n 0, 1) := by decide +kernel
theorem dX9_isSide_6 : decode cX9_isSide 6 = .ok (.bipush 99, 2) := by decide +kernel
theorem dX9_isSide_8 : decode cX9_isSide 8 = .ok (.if_icmp .gt 7, 3) := by decide +kernel
theorem dX9_isSide_11 : decode cX9_isSide 11 = .ok (.iconst 1, 1) := by decide +kernel
theorem dX9_isSide_12 : decode cX9_isSide 12 = .ok (.goto 4, 3) := by decide +kernel
theorem dX9_isSide_15 : decode cX9_isSide 15 = .ok (.iconst 0, 1) := by decide +kernel
theorem dX9_isSide_16 : decode cX9_isSide 16 = .ok (.ireturn, 1) := by decide +kernel
theorem dX10_init_0 : decode cX10_init 0 = .ok (.aload_n 0, 1) := by decide +kernel
theorem dX10_init_1 : decode cX10_init 1 = .ok (.invokespecial 1, 3) := by decide +kernel
theorem dX10_init_4 : decode cX10_init 4 = .ok (.aload_n 0, 1) := by decide +kernel
theorem dX10_init_5 : decode cX10_init 5 = .ok (.sipush 1134, 3) := by decide +kernel
theorem dX10_init_8 : decode cX10_init 8 = .ok (.newarray .int, 2) := by decide +kernel
theorem dX10_init_10 : decode cX10_init 10 = .ok (.putfield 7, 3) := by decide +kernel
theorem dX10_init_13 : decode cX10_init 13 = .ok (.aload_n 0, 1) := by decide +kernel
theorem dX10_init_14 : decode cX10_init 14 = .ok (.sipush 1134, 3) := by decide +kernel
theorem dX10_init_17 : decode cX10_init 17 = .ok (.newarray .int, 2) := by decide +kernel
theorem dX10_init_19 : decode cX10_init 19 = .ok (.putfield 13, 3) := by decide +kernel
theorem dX10_init_22 : decode cX10_init 22 = .ok (.aload_n 0, 1) := by decide +kernel
theorem dX10_init_23 : decode cX10_init 23 = .ok (.sipush 1134, 3) := by decide +kernel
theorem dX10_init_26 : decode cX10_init 26 = .ok (.newarray .int, 2) := by decide +kernel
theorem dX10_init_28 : decode cX10_init 28 = .ok (.putfield 16, 3) := by decide +kernel
theorem dX10_init_31 : decode cX10_init 31 = .ok (.aload_n 0, 1) := by decide +kernel
theorem dX10_init_32 : decode cX10_init 32 = .ok (.sipush 4536, 3) := by decide +kernel
theorem dX10_init_35 : decode cX10_init 35 = .ok (.newarray .int, 2) := by decide +kernel
theorem dX10_init_37 : decode cX10_init 37 = .ok (.putfield 19, 3) := by decide +kernel
theorem dX10_init_40 : decode cX10_init 40 = .ok (.aload_n 0, 1) := by decide +kernel
theorem dX10_init_41 : decode cX10_init 41 = .ok (.bipush 60, 2) := by decide +kernel
theorem dX10_init_43 : decode cX10_init 43 = .ok (.newarray .int, 2) := by decide +kernel
theorem dX10_init_45 : decode cX10_init 45 = .ok (.putfield 22, 3) := by decide +kernel
theorem dX10_init_48 : decode cX10_init 48 = .ok (.aload_n 0, 1) := by decide +kernel
theorem dX10_init_49 : decode cX10_init 49 = .ok (.getfield 7, 3) := by decide +kernel
theorem dX10_init_52 : decode cX10_init 52 = .ok (.bipush 9, 2) := by decide +kernel
theorem dX10_init_54 : decode cX10_init 54 = .ok (.iconst 1, 1) := by decide +kernel
theorem dX10_init_55 : decode cX10_init 55 = .ok (.iastore, 1) := by decide +kernel
theorem dX10_init_56 : decode cX10_init 56 = .ok (.aload_n 0, 1) := by decide +kernel
theorem dX10_init_57 : decode cX10_init 57 = .ok (.getfield 7, 3) := by decide +kernel
theorem dX10_init_60 : decode cX10_init 60 = .ok (.bipush 10, 2) := by decide +kernel
theorem dX10_init_62 : decode cX10_init 62 = .ok (.bipush 10, 2) := by decide +kernel
theorem dX10_init_64 : decode cX10_init 64 = .ok (.iastore, 1) := by decide +kernel
theorem dX10_init_65 : decode cX10_init 65 = .ok (.aload_n 0, 1) := by decide +kernel
theorem dX10_init_66 : decode cX10_init 66 = .ok (.getfield 7, 3) := by decide +kernel
theorem dX10_init_69 : decode cX10_init 69 = .ok (.bipush 13, 2) := by decide +kernel
theorem dX10_init_71 : decode cX10_init 71 = .ok (.iconst 1, 1) := by decide +kernel
theorem dX10_init_72 : decode cX10_init 72 = .ok (.iastore, 1) := by decide +kernel
theorem dX10_init_73 : decode cX10_init 73 = .ok (.return_, 1) := by decide +kernel
theorem dX10_in_0 : decode cX10_in 0 = .ok (.iload_n 0, 1) := by decide +kernel
theorem dX10_in_1 : decode cX10_in 1 = .ok (.iload_n 1, 1) := by decide +kernel
theorem dX10_in_2 : decode cX10_in 2 = .ok (.if_icmp .lt 12, 3) := by decide +kernel
theorem dX10_in_5 : decode cX10_in 5 = .ok (.iload_n 0, 1) := by decide +kernel
theorem dX10_in_6 : decode cX10_in 6 = .ok (.iload_n 2, 1) := by decide +kernel
theorem dX10_in_7 : decode cX10_in 7 = .ok (.if_icmp .gt 7, 3) := by decide +kernel
theorem dX10_in_10 : decode cX10_in 10 = .ok (.iconst 1, 1) := by decide +kernel
theorem dX10_in_11 : decode cX10_in 11 = .ok (.goto 4, 3) := by decide +kernel
theorem dX10_in_14 : decode cX10_in 14 = .ok (.iconst 0, 1) := by decide +kernel
theorem dX10_in_15 : decode cX10_in 15 = .ok (.ireturn, 1) := by decide +kernel
theorem dX10_copy_0 : decode cX10_copy 0 = .ok (.iconst 0, 1) := by decide +kernel
theorem dX10_copy_1 : decode cX10_copy 1 = .ok (.istore_n 2, 1) := by decide +kernel
theorem dX10_copy_2 : decode cX10_copy 2 = .ok (.iload_n 2, 1) := by decide +kernel
theorem dX10_copy_3 : decode cX10_copy 3 = .ok (.sipush 1134, 3) := by decide +kernel
theorem dX10_copy_6 : decode cX10_copy 6 = .ok (.if_icmp .ge 15, 3) := by decide +kernel
theorem dX10_copy_9 : decode cX10_copy 9 = .ok (.aload_n 1, 1) := by decide +kernel
theorem dX10_copy_10 : decode cX10_copy 10 = .ok (.iload_n 2, 1) := by decide +kernel
theorem dX10_copy_11 : decode cX10_copy 11 = .ok (.aload_n 0, 1) := by decide +kernel
theorem dX10_copy_12 : decode cX10_copy 12 = .ok (.iload_n 2, 1) := by decide +kernel
theorem dX10_copy_13 : decode cX10_copy 13 = .ok (.iaload, 1) := by decide +kernel
theorem dX10_copy_14 : decode cX10_copy 14 = .ok (.iastore, 1) := by decide +kernel
theorem dX10_copy_15 : decode cX10_copy 15 = .ok (.iinc 2 1, 3) := by decide +kernel
theorem dX10_copy_18 : decode cX10_copy 18 = .ok (.goto (-16), 3) := by decide +kernel
theorem dX10_copy_21 : decode cX10_copy 21 = .ok (.return_, 1) := by decide +kernel
theorem dX10_record_0 : decode cX10_record 0 = .ok (.aload_n 0, 1) := by decide +kernel
theorem dX10_record_1 : decode cX10_record 1 = .ok (.getfield 25, 3) := by decide +kernel
theorem dX10_record_4 : decode cX10_record 4 = .ok (.iconst 4, 1) := by decide +kernel
theorem dX10_record_5 : decode cX10_record 5 = .ok (.if_icmp .ne 44, 3) := by decide +kernel
theorem dX10_record_8 : decode cX10_record 8 = .ok (.iconst 0, 1) := by decide +kernel
theorem dX10_record_9 : decode cX10_record 9 = .ok (.istore_n 2, 1) := by decide +kernel
theorem dX10_record_10 : decode cX10_record 10 = .ok (.iload_n 2, 1) := by decide +kernel
theorem dX10_record_11 : decode cX10_record 11 = .ok (.sipush 3402, 3) := by decide +kernel
theorem dX10_record_14 : decode cX10_record 14 = .ok (.if_icmp .ge 25, 3) := by decide +kernel
theorem dX10_record_17 : decode cX10_record 17 = .ok (.aload_n 0, 1) := by decide +kernel
theorem dX10_record_18 : decode cX10_record 18 = .ok (.getfield 19, 3) := by decide +kernel
theorem dX10_record_21 : decode cX10_record 21 = .ok (.iload_n 2, 1) := by decide +kernel
theorem dX10_record_22 : decode cX10_record 22 = .ok (.aload_n 0, 1) := by decide +kernel
theorem dX10_record_23 : decode cX10_record 23 = .ok (.getfield 19, 3) := by decide +kernel
theorem dX10_record_26 : decode cX10_record 26 = .ok (.iload_n 2, 1) := by decide +kernel
theorem dX10_record_27 : decode cX10_record 27 = .ok (.sipush 1134, 3) := by decide +kernel
theorem dX10_record_30 : decode cX10_record 30 = .ok (.iadd, 1) := by decide +kernel
theorem dX10_record_31 : decode cX10_record 31 = .ok (.iaload, 1) := by decide +kernel
theorem dX10_record_32 : decode cX10_record 32 = .ok (.iastore, 1) := by decide +kernel
theorem dX10_record_33 : decode cX10_record 33 = .ok (.iinc 2 1, 3) := by decide +kernel
theorem dX10_record_36 : decode cX10_record 36 = .ok (.goto (-26), 3) := by decide +kernel
theorem dX10_record_39 : decode cX10_record 39 = .ok (.aload_n 0, 1) := by decide +kernel
theorem dX10_record_40 : decode cX10_record 40 = .ok (.dup, 1) := by decide +kernel
theorem dX10_record_41 : decode cX10_record 41 = .ok (.getfield 25, 3) := by decide +kernel
theorem dX10_record_44 : decode cX10_record 44 = .ok (.iconst 1, 1) := by decide +kernel
theorem dX10_record_45 : decode cX10_record 45 = .ok (.isub, 1) := by decide +kernel
theorem dX10_record_46 : decode cX10_record 46 = .ok (.putfield 25, 3) := by decide +kernel
theorem dX10_record_49 : decode cX10_record 49 = .ok (.iconst 0, 1) := by decide +kernel
theorem dX10_record_50 : decode cX10_record 50 = .ok (.istore_n 2, 1) := by decide +kernel
theorem dX10_record_51 : decode cX10_record 51 = .ok (.iload_n 2, 1) := by decide +kernel
theorem dX10_record_52 : decode cX10_record 52 = .ok (.sipush 1134, 3) := by decide +kernel
theorem dX10_record_55 : decode cX10_record 55 = .ok (.if_icmp .ge 27, 3) := by decide +kernel
theorem dX10_record_58 : decode cX10_record 58 = .ok (.aload_n 0, 1) := by decide +kernel
theorem dX10_record_59 : decode cX10_record 59 = .ok (.getfield 19, 3) := by decide +kernel
theorem dX10_record_62 : decode cX10_record 62 = .ok (.sipush 1134, 3) := by decide +kernel
theorem dX10_record_65 : decode cX10_record 65 = .ok (.aload_n 0, 1) := by decide +kernel
theorem dX10_record_66 : decode cX10_record 66 = .ok (.getfield 25, 3) := by decide +kernel
theorem dX10_record_69 : decode cX10_record 69 = .ok (.imul, 1) := by decide +kernel
theorem dX10_record_70 : decode cX10_record 70 = .ok (.iload_n 2, 1) := by decide +kernel
theorem dX10_record_71 : decode cX10_record 71 = .ok (.iadd, 1) := by decide +kernel
theorem dX10_record_72 : decode cX10_record 72 = .ok (.aload_n 1, 1) := by decide +kernel
theorem dX10_record_73 : decode cX10_record 73 = .ok (.iload_n 2, 1) := by decide +kernel
theorem dX10_record_74 : decode cX10_record 74 = .ok (.iaload, 1) := by decide +kernel
theorem dX10_record_75 : decode cX10_record 75 = .ok (.iastore, 1) := by decide +kernel
theorem dX10_record_76 : decode cX10_record 76 = .ok (.iinc 2 1, 3) := by decide +kernel
theorem dX10_record_79 : decode cX10_record 79 = .ok (.goto (-28), 3) := by decide +kernel
theorem dX10_record_82 : decode cX10_record 82 = .ok (.aload_n 0, 1) := by decide +kernel
theorem dX10_record_83 : decode cX10_record 83 = .ok (.dup, 1) := by decide +kernel
theorem dX10_record_84 : decode cX10_record 84 = .ok (.getfield 25, 3) := by decide +kernel
theorem dX10_record_87 : decode cX10_record 87 = .ok (.iconst 1, 1) := by decide +kernel
theorem dX10_record_88 : decode cX10_record 88 = .ok (.iadd, 1) := by decide +kernel
theorem dX10_record_89 : decode cX10_record 89 = .ok (.putfield 25, 3) := by decide +kernel
theorem dX10_record_92 : decode cX10_record 92 = .ok (.return_, 1) := by decide +kernel
theorem dX10_setting_0 : decode cX10_setting 0 = .ok (.aload_n 0, 1) := by decide +kernel
theorem dX10_setting_1 : decode cX10_setting 1 = .ok (.getfield 7, 3) := by decide +kernel
theorem dX10_setting_4 : decode cX10_setting 4 = .ok (.bipush 9, 2) := by decide +kernel
theorem dX10_setting_6 : decode cX10_setting 6 = .ok (.iload_n 1, 1) := by decide +kernel
theorem dX10_setting_7 : decode cX10_setting 7 = .ok (.iadd, 1) := by decide +kernel
theorem dX10_setting_8 : decode cX10_setting 8 = .ok (.iaload, 1) := by decide +kernel
theorem dX10_setting_9 : decode cX10_setting 9 = .ok (.ireturn, 1) := by decide +kernel
theorem dX10_many_0 : decode cX10_many 0 = .ok (.aload_n 0, 1) := by decide +kernel
theorem dX10_many_1 : decode cX10_many 1 = .ok (.getfield 7, 3) := by decide +kernel
theorem dX10_many_4 : decode cX10_many 4 = .ok (.bipush 14, 2) := by decide +kernel
theorem dX10_many_6 : decode cX10_many 6 = .ok (.bipush 9, 2) := by decide +kernel
theorem dX10_many_8 : decode cX10_many 8 = .ok (.iload_n 1, 1) := by decide +kernel
theorem dX10_many_9 : decode cX10_many 9 = .ok (.imul, 1) := by decide +kernel
theorem dX10_many_10 : decode cX10_many 10 = .ok (.iadd, 1) := by decide +kernel
theorem dX10_many_11 : decode cX10_many 11 = .ok (.iaload, 1) := by decide +kernel
theorem dX10_many_12 : decode cX10_many 12 = .ok (.ireturn, 1) := by decide +kernel
theorem dX10_standing_0 : decode cX10_standing 0 = .ok (.aload_n 0, 1) := by decide +kernel
theorem dX10_standing_1 : decode cX10_standing 1 = .ok (.getfield 7, 3) := by decide +kernel
theorem dX10_standing_4 : decode cX10_standing 4 = .ok (.bipush 14, 2) := by decide +kernel
theorem dX10_standing_6 : decode cX10_standing 6 = .ok (.bipush 9, 2) := by decide +kernel
theorem dX10_standing_8 : decode cX10_standing 8 = .ok (.iload_n 1, 1) := by decide +kernel
theorem dX10_standing_9 : decode cX10_standing 9 = .ok (.imul, 1) := by decide +kernel
theorem dX10_standing_10 : decode cX10_standing 10 = .ok (.iadd, 1) := by decide +kernel
theorem dX10_standing_11 : decode cX10_standing 11 = .ok (.iconst 1, 1) := by decide +kernel
theorem dX10_standing_12 : decode cX10_standing 12 = .ok (.iadd, 1) := by decide +kernel
theorem dX10_standing_13 : decode cX10_standing 13 = .ok (.iload_n 2, 1) := by decide +kernel
theorem dX10_standing_14 : decode cX10_standing 14 = .ok (.iadd, 1) := by decide +kernel
theorem dX10_standing_15 : decode cX10_standing 15 = .ok (.iaload, 1) := by decide +kernel
theorem dX10_standing_16 : decode cX10_standing 16 = .ok (.ireturn, 1) := by decide +kernel
theorem dX10_its_0 : decode cX10_its 0 = .ok (.aload_n 0, 1) := by decide +kernel
theorem dX10_its_1 : decode cX10_its 1 = .ok (.getfield 7, 3) := by decide +kernel
theorem dX10_its_4 : decode cX10_its 4 = .ok (.bipush 50, 2) := by decide +kernel
theorem dX10_its_6 : decode cX10_its 6 = .ok (.iconst 5, 1) := by decide +kernel
theorem dX10_its_7 : decode cX10_its 7 = .ok (.iload_n 1, 1) := by decide +kernel
theorem dX10_its_8 : decode cX10_its 8 = .ok (.imul, 1) := by decide +kernel
theorem dX10_its_9 : decode cX10_its 9 = .ok (.iadd, 1) := by decide +kernel
theorem dX10_its_10 : decode cX10_its 10 = .ok (.iload_n 2, 1) := by decide +kernel
theorem dX10_its_11 : decode cX10_its 11 = .ok (.iadd, 1) := by decide +kernel
theorem dX10_its_12 : decode cX10_its 12 = .ok (.iaload, 1) := by decide +kernel
theorem dX10_its_13 : decode cX10_its 13 = .ok (.ireturn, 1) := by decide +kernel
theorem dX10_area_0 : decode cX10_area 0 = .ok (.aload_n 0, 1) := by decide +kernel
theorem dX10_area_1 : decode cX10_area 1 = .ok (.iload_n 1, 1) := by decide +kernel
theorem dX10_area_2 : decode cX10_area 2 = .ok (.iconst 1, 1) := by decide +kernel
theorem dX10_area_3 : decode cX10_area 3 = .ok (.invokevirtual 29, 3) := by decide +kernel
theorem dX10_area_6 : decode cX10_area 6 = .ok (.aload_n 0, 1) := by decide +kernel
theorem dX10_area_7 : decode cX10_area 7 = .ok (.iload_n 1, 1) := by decide +kernel
theorem dX10_area_8 : decode cX10_area 8 = .ok (.iconst 2, 1) := by decide +kernel
theorem dX10_area_9 : decode cX10_area 9 = .ok (.invokevirtual 29, 3) := by decide +kernel
theorem dX10_area_12 : decode cX10_area 12 = .ok (.imul, 1) := by decide +kernel
theorem dX10_area_13 : decode cX10_area 13 = .ok (.ireturn, 1) := by decide +kernel
theorem dX10_isSheet_0 : decode cX10_isSheet 0 = .ok (.iload_n 1, 1) := by decide +kernel
theorem dX10_isSheet_1 : decode cX10_isSheet 1 = .ok (.iconst 0, 1) := by decide +kernel
theorem dX10_isSheet_2 : decode cX10_isSheet 2 = .ok (.aload_n 0, 1) := by decide +kernel
theorem dX10_isSheet_3 : decode cX10_isSheet 3 = .ok (.getfield 7, 3) := by decide +kernel
theorem dX10_isSheet_6 : decode cX10_isSheet 6 = .ok (.bipush 8, 2) := by decide +kernel
theorem dX10_isSheet_8 : decode cX10_isSheet 8 = .ok (.iaload, 1) := by decide +kernel
theorem dX10_isSheet_9 : decode cX10_isSheet 9 = .ok (.iconst 1, 1) := by decide +kernel
theorem dX10_isSheet_10 : decode cX10_isSheet 10 = .ok (.isub, 1) := by decide +kernel
theorem dX10_isSheet_11 : decode cX10_isSheet 11 = .ok (.invokestatic 33, 3) := by decide +kernel
theorem dX10_isSheet_14 : decode cX10_isSheet 14 = .ok (.ifCond .eq 16, 3) := by decide +kernel
theorem dX10_isSheet_17 : decode cX10_isSheet 17 = .ok (.aload_n 0, 1) := by decide +kernel
theorem dX10_isSheet_18 : decode cX10_isSheet 18 = .ok (.iload_n 1, 1) := by decide +kernel
theorem dX10_isSheet_19 : decode cX10_isSheet 19 = .ok (.iconst 3, 1) := by decide +kernel
theorem dX10_isSheet_20 : decode cX10_isSheet 20 = .ok (.invokevirtual 29, 3) := by decide +kernel
theorem dX10_isSheet_23 : decode cX10_isSheet 23 = .ok (.ifCond .lt 7, 3) := by decide +kernel
theorem dX10_isSheet_26 : decode cX10_isSheet 26 = .ok (.iconst 1, 1) := by decide +kernel
theorem dX10_isSheet_27 : decode cX10_isSheet 27 = .ok (.goto 4, 3) := by decide +kernel
theorem dX10_isSheet_30 : decode cX10_isSheet 30 = .ok (.iconst 0, 1) := by decide +kernel
theorem dX10_isSheet_31 : decode cX10_isSheet 31 = .ok (.ireturn, 1) := by decide +kernel
theorem dX10_before_0 : decode cX10_before 0 = .ok (.iconst 0, 1) := by decide +kernel
theorem dX10_before_1 : decode cX10_before 1 = .ok (.istore_n 2, 1) := by decide +kernel
theorem dX10_before_2 : decode cX10_before 2 = .ok (.aload_n 0, 1) := by decide +kernel
theorem dX10_before_3 : decode cX10_before 3 = .ok (.aload_n 0, 1) := by decide +kernel
theorem dX10_before_4 : decode cX10_before 4 = .ok (.iload_n 1, 1) := by decide +kernel
theorem dX10_before_5 : decode cX10_before 5 = .ok (.iconst 3, 1) := by decide +kernel
theorem dX10_before_6 : decode cX10_before 6 = .ok (.invokevirtual 29, 3) := by decide +kernel
theorem dX10_before_9 : decode cX10_before 9 = .ok (.iload_n 2, 1) := by decide +kernel
theorem dX10_before_10 : decode cX10_before 10 = .ok (.invokevirtual 37, 3) := by decide +kernel
theorem dX10_before_13 : decode cX10_before 13 = .ok (.iload_n 1, 1) := by decide +kernel
theorem dX10_before_14 : decode cX10_before 14 = .ok (.if_icmp .eq 9, 3) := by decide +kernel
theorem dX10_before_17 : decode cX10_before 17 = .ok (.iinc 2 1, 3) := by decide +kernel
theorem dX10_before_20 : decode cX10_before 20 = .ok (.goto (-18), 3) := by decide +kernel
theorem dX10_before_23 : decode cX10_before 23 = .ok (.iload_n 2, 1) := by decide +kernel
theorem dX10_before_24 : decode cX10_before 24 = .ok (.ireturn, 1) := by decide +kernel
theorem dX10_leans_0 : decode cX10_leans 0 = .ok (.aload_n 0, 1) := by decide +kernel
theorem dX10_leans_1 : decode cX10_leans 1 = .ok (.iload_n 1, 1) := by decide +kernel
theorem dX10_leans_2 : decode cX10_leans 2 = .ok (.invokevirtual 40, 3) := by decide +kernel
theorem dX10_leans_5 : decode cX10_leans 5 = .ok (.istore_n 3, 1) := by decide +kernel
theorem dX10_leans_6 : decode cX10_leans 6 = .ok (.iload_n 3, 1) := by decide +kernel
theorem dX10_leans_7 : decode cX10_leans 7 = .ok (.istore 4, 2) := by decide +kernel
theorem dX10_leans_9 : decode cX10_leans 9 = .ok (.iload 4, 2) := by decide +kernel
theorem dX10_leans_11 : decode cX10_leans 11 = .ok (.ifCond .le 41, 3) := by decide +kernel
theorem dX10_leans_14 : decode cX10_leans 14 = .ok (.aload_n 0, 1) := by decide +kernel
theorem dX10_leans_15 : decode cX10_leans 15 = .ok (.getfield 7, 3) := by decide +kernel
theorem dX10_leans_18 : decode cX10_leans 18 = .ok (.bipush 14, 2) := by decide +kernel
theorem dX10_leans_20 : decode cX10_leans 20 = .ok (.bipush 9, 2) := by decide +kernel
theorem dX10_leans_22 : decode cX10_leans 22 = .ok (.iload_n 1, 1) := by decide +kernel
theorem dX10_leans_23 : decode cX10_leans 23 = .ok (.imul, 1) := by decide +kernel
theorem dX10_leans_24 : decode cX10_leans 24 = .ok (.iadd, 1) := by decide +kernel
theorem dX10_leans_25 : decode cX10_leans 25 = .ok (.iconst 1, 1) := by decide +kernel
theorem dX10_leans_26 : decode cX10_leans 26 = .ok (.iadd, 1) := by decide +kernel
theorem dX10_leans_27 : decode cX10_leans 27 = .ok (.iload 4, 2) := by decide +kernel
theorem dX10_leans_29 : decode cX10_leans 29 = .ok (.iadd, 1) := by decide +kernel
theorem dX10_leans_30 : decode cX10_leans 30 = .ok (.aload_n 0, 1) := by decide +kernel
theorem dX10_leans_31 : decode cX10_leans 31 = .ok (.getfield 7, 3) := by decide +kernel
theorem dX10_leans_34 : decode cX10_leans 34 = .ok (.bipush 14, 2) := by decide +kernel
theorem dX10_leans_36 : decode cX10_leans 36 = .ok (.bipush 9, 2) := by decide +kernel
theorem dX10_leans_38 : decode cX10_leans 38 = .ok (.iload_n 1, 1) := by decide +kernel
theorem dX10_leans_39 : decode cX10_leans 39 = .ok (.imul, 1) := by decide +kernel
theorem dX10_leans_40 : decode cX10_leans 40 = .ok (.iadd, 1) := by decide +kernel
theorem dX10_leans_41 : decode cX10_leans 41 = .ok (.iload 4, 2) := by decide +kernel
theorem dX10_leans_43 : decode cX10_leans 43 = .ok (.iadd, 1) := by decide +kernel
theorem dX10_leans_44 : decode cX10_leans 44 = .ok (.iaload, 1) := by decide +kernel
theorem dX10_leans_45 : decode cX10_leans 45 = .ok (.iastore, 1) := by decide +kernel
theorem dX10_leans_46 : decode cX10_leans 46 = .ok (.iinc 4 (-1), 3) := by decide +kernel
theorem dX10_leans_49 : decode cX10_leans 49 = .ok (.goto (-40), 3) := by decide +kernel
theorem dX10_leans_52 : decode cX10_leans 52 = .ok (.aload_n 0, 1) := by decide +kernel
theorem dX10_leans_53 : decode cX10_leans 53 = .ok (.getfield 7, 3) := by decide +kernel
theorem dX10_leans_56 : decode cX10_leans 56 = .ok (.bipush 14, 2) := by decide +kernel
theorem dX10_leans_58 : decode cX10_leans 58 = .ok (.bipush 9, 2) := by decide +kernel
theorem dX10_leans_60 : decode cX10_leans 60 = .ok (.iload_n 1, 1) := by decide +kernel
theorem dX10_leans_61 : decode cX10_leans 61 = .ok (.imul, 1) := by decide +kernel
theorem dX10_leans_62 : decode cX10_leans 62 = .ok (.iadd, 1) := by decide +kernel
theorem dX10_leans_63 : decode cX10_leans 63 = .ok (.iconst 1, 1) := by decide +kernel
theorem dX10_leans_64 : decode cX10_leans 64 = .ok (.iadd, 1) := by decide +kernel
theorem dX10_leans_65 : decode cX10_leans 65 = .ok (.iload_n 2, 1) := by decide +kernel
theorem dX10_leans_66 : decode cX10_leans 66 = .ok (.iastore, 1) := by decide +kernel
theorem dX10_leans_67 : decode cX10_leans 67 = .ok (.aload_n 0, 1) := by decide +kernel
theorem dX10_leans_68 : decode cX10_leans 68 = .ok (.getfield 7, 3) := by decide +kernel
theorem dX10_leans_71 : decode cX10_leans 71 = .ok (.bipush 14, 2) := by decide +kernel
theorem dX10_leans_73 : decode cX10_leans 73 = .ok (.bipush 9, 2) := by decide +kernel
theorem dX10_leans_75 : decode cX10_leans 75 = .ok (.iload_n 1, 1) := by decide +kernel
theorem dX10_leans_76 : decode cX10_leans 76 = .ok (.imul, 1) := by decide +kernel
theorem dX10_leans_77 : decode cX10_leans 77 = .ok (.iadd, 1) := by decide +kernel
theorem dX10_leans_78 : decode cX10_leans 78 = .ok (.iload_n 3, 1) := by decide +kernel
theorem dX10_leans_79 : decode cX10_leans 79 = .ok (.iconst 1, 1) := by decide +kernel
theorem dX10_leans_80 : decode cX10_leans 80 = .ok (.iadd, 1) := by decide +kernel
theorem dX10_leans_81 : decode cX10_leans 81 = .ok (.iastore, 1) := by decide +kernel
theorem dX10_leans_82 : decode cX10_leans 82 = .ok (.aload_n 0, 1) := by decide +kernel
theorem dX10_leans_83 : decode cX10_leans 83 = .ok (.getfield 7, 3) := by decide +kernel
theorem dX10_leans_86 : decode cX10_leans 86 = .ok (.bipush 50, 2) := by decide +kernel
theorem dX10_leans_88 : decode cX10_leans 88 = .ok (.iconst 5, 1) := by decide +kernel
theorem dX10_leans_89 : decode cX10_leans 89 = .ok (.iload_n 2, 1) := by decide +kernel
theorem dX10_leans_90 : decode cX10_leans 90 = .ok (.imul, 1) := by decide +kernel
theorem dX10_leans_91 : decode cX10_leans 91 = .ok (.iadd, 1) := by decide +kernel
theorem dX10_leans_92 : decode cX10_leans 92 = .ok (.iconst 3, 1) := by decide +kernel
theorem dX10_leans_93 : decode cX10_leans 93 = .ok (.iadd, 1) := by decide +kernel
theorem dX10_leans_94 : decode cX10_leans 94 = .ok (.iload_n 1, 1) := by decide +kernel
theorem dX10_leans_95 : decode cX10_leans 95 = .ok (.iastore, 1) := by decide +kernel
theorem dX10_leans_96 : decode cX10_leans 96 = .ok (.return_, 1) := by decide +kernel
theorem dX10_makes_0 : decode cX10_makes 0 = .ok (.aload_n 0, 1) := by decide +kernel
theorem dX10_makes_1 : decode cX10_makes 1 = .ok (.getfield 7, 3) := by decide +kernel
theorem dX10_makes_4 : decode cX10_makes 4 = .ok (.bipush 8, 2) := by decide +kernel
theorem dX10_makes_6 : decode cX10_makes 6 = .ok (.iaload, 1) := by decide +kernel
theorem dX10_makes_7 : decode cX10_makes 7 = .ok (.istore 6, 2) := by decide +kernel
theorem dX10_makes_9 : decode cX10_makes 9 = .ok (.aload_n 0, 1) := by decide +kernel
theorem dX10_makes_10 : decode cX10_makes 10 = .ok (.getfield 7, 3) := by decide +kernel
theorem dX10_makes_13 : decode cX10_makes 13 = .ok (.bipush 8, 2) := by decide +kernel
theorem dX10_makes_15 : decode cX10_makes 15 = .ok (.iload 6, 2) := by decide +kernel
theorem dX10_makes_17 : decode cX10_makes 17 = .ok (.iconst 1, 1) := by decide +kernel
theorem dX10_makes_18 : decode cX10_makes 18 = .ok (.iadd, 1) := by decide +kernel
theorem dX10_makes_19 : decode cX10_makes 19 = .ok (.iastore, 1) := by decide +kernel
theorem dX10_makes_20 : decode cX10_makes 20 = .ok (.aload_n 0, 1) := by decide +kernel
theorem dX10_makes_21 : decode cX10_makes 21 = .ok (.getfield 7, 3) := by decide +kernel
theorem dX10_makes_24 : decode cX10_makes 24 = .ok (.bipush 50, 2) := by decide +kernel
theorem dX10_makes_26 : decode cX10_makes 26 = .ok (.iconst 5, 1) := by decide +kernel
theorem dX10_makes_27 : decode cX10_makes 27 = .ok (.iload 6, 2) := by decide +kernel
theorem dX10_makes_29 : decode cX10_makes 29 = .ok (.imul, 1) := by decide +kernel
theorem dX10_makes_30 : decode cX10_makes 30 = .ok (.iadd, 1) := by decide +kernel
theorem dX10_makes_31 : decode cX10_makes 31 = .ok (.iconst 0, 1) := by decide +kernel
theorem dX10_makes_32 : decode cX10_makes 32 = .ok (.iadd, 1) := by decide +kernel
theorem dX10_makes_33 : decode cX10_makes 33 = .ok (.iload_n 2, 1) := by decide +kernel
theorem dX10_makes_34 : decode cX10_makes 34 = .ok (.iastore, 1) := by decide +kernel
theorem dX10_makes_35 : decode cX10_makes 35 = .ok (.aload_n 0, 1) := by decide +kernel
theorem dX10_makes_36 : decode cX10_makes 36 = .ok (.getfield 7, 3) := by decide +kernel
theorem dX10_makes_39 : decode cX10_makes 39 = .ok (.bipush 50, 2) := by decide +kernel
theorem dX10_makes_41 : decode cX10_makes 41 = .ok (.iconst 5, 1) := by decide +kernel
theorem dX10_makes_42 : decode cX10_makes 42 = .ok (.iload 6, 2) := by decide +kernel
theorem dX10_makes_44 : decode cX10_makes 44 = .ok (.imul, 1) := by decide +kernel
theorem dX10_makes_45 : decode cX10_makes 45 = .ok (.iadd, 1) := by decide +kernel
theorem dX10_makes_46 : decode cX10_makes 46 = .ok (.iconst 1, 1) := by decide +kernel
theorem dX10_makes_47 : decode cX10_makes 47 = .ok (.iadd, 1) := by decide +kernel
theorem dX10_makes_48 : decode cX10_makes 48 = .ok (.iload_n 3, 1) := by decide +kernel
theorem dX10_makes_49 : decode cX10_makes 49 = .ok (.iastore, 1) := by decide +kernel
theorem dX10_makes_50 : decode cX10_makes 50 = .ok (.aload_n 0, 1) := by decide +kernel
theorem dX10_makes_51 : decode cX10_makes 51 = .ok (.getfield 7, 3) := by decide +kernel
theorem dX10_makes_54 : decode cX10_makes 54 = .ok (.bipush 50, 2) := by decide +kernel
theorem dX10_makes_56 : decode cX10_makes 56 = .ok (.iconst 5, 1) := by decide +kernel
theorem dX10_makes_57 : decode cX10_makes 57 = .ok (.iload 6, 2) := by decide +kernel
theorem dX10_makes_59 : decode cX10_makes 59 = .ok (.imul, 1) := by decide +kernel
theorem dX10_makes_60 : decode cX10_makes 60 = .ok (.iadd, 1) := by decide +kernel
theorem dX10_makes_61 : decode cX10_makes 61 = .ok (.iconst 2, 1) := by decide +kernel
theorem dX10_makes_62 : decode cX10_makes 62 = .ok (.iadd, 1) := by decide +kernel
theorem dX10_makes_63 : decode cX10_makes 63 = .ok (.iload 4, 2) := by decide +kernel
theorem dX10_makes_65 : decode cX10_makes 65 = .ok (.iastore, 1) := by decide +kernel
theorem dX10_makes_66 : decode cX10_makes 66 = .ok (.aload_n 0, 1) := by decide +kernel
theorem dX10_makes_67 : decode cX10_makes 67 = .ok (.getfield 7, 3) := by decide +kernel
theorem dX10_makes_70 : decode cX10_makes 70 = .ok (.bipush 50, 2) := by decide +kernel
theorem dX10_makes_72 : decode cX10_makes 72 = .ok (.iconst 5, 1) := by decide +kernel
theorem dX10_makes_73 : decode cX10_makes 73 = .ok (.iload 6, 2) := by decide +kernel
theorem dX10_makes_75 : decode cX10_makes 75 = .ok (.imul, 1) := by decide +kernel
theorem dX10_makes_76 : decode cX10_makes 76 = .ok (.iadd, 1) := by decide +kernel
theorem dX10_makes_77 : decode cX10_makes 77 = .ok (.iconst 4, 1) := by decide +kernel
theorem dX10_makes_78 : decode cX10_makes 78 = .ok (.iadd, 1) := by decide +kernel
theorem dX10_makes_79 : decode cX10_makes 79 = .ok (.iload 5, 2) := by decide +kernel
theorem dX10_makes_81 : decode cX10_makes 81 = .ok (.iastore, 1) := by decide +kernel
theorem dX10_makes_82 : decode cX10_makes 82 = .ok (.aload_n 0, 1) := by decide +kernel
theorem dX10_makes_83 : decode cX10_makes 83 = .ok (.iload_n 1, 1) := by decide +kernel
theorem dX10_makes_84 : decode cX10_makes 84 = .ok (.iload 6, 2) := by decide +kernel
theorem dX10_makes_86 : decode cX10_makes 86 = .ok (.invokevirtual 44, 3) := by decide +kernel
theorem dX10_makes_89 : decode cX10_makes 89 = .ok (.iload 6, 2) := by decide +kernel
theorem dX10_makes_91 : decode cX10_makes 91 = .ok (.ireturn, 1) := by decide +kernel
theorem dX10_breaks_0 : decode cX10_breaks 0 = .ok (.aload_n 0, 1) := by decide +kernel
theorem dX10_breaks_1 : decode cX10_breaks 1 = .ok (.getfield 7, 3) := by decide +kernel
theorem dX10_breaks_4 : decode cX10_breaks 4 = .ok (.bipush 6, 2) := by decide +kernel
theorem dX10_breaks_6 : decode cX10_breaks 6 = .ok (.dup2, 1) := by decide +kernel
theorem dX10_breaks_7 : decode cX10_breaks 7 = .ok (.iaload, 1) := by decide +kernel
theorem dX10_breaks_8 : decode cX10_breaks 8 = .ok (.iconst 1, 1) := by decide +kernel
theorem dX10_breaks_9 : decode cX10_breaks 9 = .ok (.iadd, 1) := by decide +kernel
theorem dX10_breaks_10 : decode cX10_breaks 10 = .ok (.iastore, 1) := by decide +kernel
theorem dX10_breaks_11 : decode cX10_breaks 11 = .ok (.aload_n 0, 1) := by decide +kernel
theorem dX10_breaks_12 : decode cX10_breaks 12 = .ok (.iconst 3, 1) := by decide +kernel
theorem dX10_breaks_13 : decode cX10_breaks 13 = .ok (.invokevirtual 48, 3) := by decide +kernel
theorem dX10_breaks_16 : decode cX10_breaks 16 = .ok (.ifCond .le 23, 3) := by decide +kernel
theorem dX10_breaks_19 : decode cX10_breaks 19 = .ok (.aload_n 0, 1) := by decide +kernel
theorem dX10_breaks_20 : decode cX10_breaks 20 = .ok (.getfield 7, 3) := by decide +kernel
theorem dX10_breaks_23 : decode cX10_breaks 23 = .ok (.bipush 6, 2) := by decide +kernel
theorem dX10_breaks_25 : decode cX10_breaks 25 = .ok (.iaload, 1) := by decide +kernel
theorem dX10_breaks_26 : decode cX10_breaks 26 = .ok (.aload_n 0, 1) := by decide +kernel
theorem dX10_breaks_27 : decode cX10_breaks 27 = .ok (.iconst 3, 1) := by decide +kernel
theorem dX10_breaks_28 : decode cX10_breaks 28 = .ok (.invokevirtual 48, 3) := by decide +kernel
theorem dX10_breaks_31 : decode cX10_breaks 31 = .ok (.irem, 1) := by decide +kernel
theorem dX10_breaks_32 : decode cX10_breaks 32 = .ok (.ifCond .ne 7, 3) := by decide +kernel
theorem dX10_breaks_35 : decode cX10_breaks 35 = .ok (.iconst 1, 1) := by decide +kernel
theorem dX10_breaks_36 : decode cX10_breaks 36 = .ok (.goto 4, 3) := by decide +kernel
theorem dX10_breaks_39 : decode cX10_breaks 39 = .ok (.iconst 0, 1) := by decide +kernel
theorem dX10_breaks_40 : decode cX10_breaks 40 = .ok (.istore_n 2, 1) := by decide +kernel
theorem dX10_breaks_41 : decode cX10_breaks 41 = .ok (.iload_n 2, 1) := by decide +kernel
theorem dX10_breaks_42 : decode cX10_breaks 42 = .ok (.ifCond .eq 31, 3) := by decide +kernel
theorem dX10_breaks_45 : decode cX10_breaks 45 = .ok (.aload_n 0, 1) := by decide +kernel
theorem dX10_breaks_46 : decode cX10_breaks 46 = .ok (.getfield 7, 3) := by decide +kernel
theorem dX10_breaks_49 : decode cX10_breaks 49 = .ok (.iconst 4, 1) := by decide +kernel
theorem dX10_breaks_50 : decode cX10_breaks 50 = .ok (.dup2, 1) := by decide +kernel
theorem dX10_breaks_51 : decode cX10_breaks 51 = .ok (.iaload, 1) := by decide +kernel
theorem dX10_breaks_52 : decode cX10_breaks 52 = .ok (.aload_n 0, 1) := by decide +kernel
theorem dX10_breaks_53 : decode cX10_breaks 53 = .ok (.iload_n 1, 1) := by decide +kernel
theorem dX10_breaks_54 : decode cX10_breaks 54 = .ok (.invokevirtual 51, 3) := by decide +kernel
theorem dX10_breaks_57 : decode cX10_breaks 57 = .ok (.iadd, 1) := by decide +kernel
theorem dX10_breaks_58 : decode cX10_breaks 58 = .ok (.iastore, 1) := by decide +kernel
theorem dX10_breaks_59 : decode cX10_breaks 59 = .ok (.aload_n 0, 1) := by decide +kernel
theorem dX10_breaks_60 : decode cX10_breaks 60 = .ok (.getfield 7, 3) := by decide +kernel
theorem dX10_breaks_63 : decode cX10_breaks 63 = .ok (.bipush 50, 2) := by decide +kernel
theorem dX10_breaks_65 : decode cX10_breaks 65 = .ok (.iconst 5, 1) := by decide +kernel
theorem dX10_breaks_66 : decode cX10_breaks 66 = .ok (.iload_n 1, 1) := by decide +kernel
theorem dX10_breaks_67 : decode cX10_breaks 67 = .ok (.imul, 1) := by decide +kernel
theorem dX10_breaks_68 : decode cX10_breaks 68 = .ok (.iadd, 1) := by decide +kernel
theorem dX10_breaks_69 : decode cX10_breaks 69 = .ok (.iconst 3, 1) := by decide +kernel
theorem dX10_breaks_70 : decode cX10_breaks 70 = .ok (.iadd, 1) := by decide +kernel
theorem dX10_breaks_71 : decode cX10_breaks 71 = .ok (.iconst (-1), 1) := by decide +kernel
theorem dX10_breaks_72 : decode cX10_breaks 72 = .ok (.iastore, 1) := by decide +kernel
theorem dX10_breaks_73 : decode cX10_breaks 73 = .ok (.iload_n 2, 1) := by decide +kernel
theorem dX10_breaks_74 : decode cX10_breaks 74 = .ok (.ireturn, 1) := by decide +kernel
theorem dX10_takes_0 : decode cX10_takes 0 = .ok (.aload_n 0, 1) := by decide +kernel
theorem dX10_takes_1 : decode cX10_takes 1 = .ok (.iload_n 1, 1) := by decide +kernel
theorem dX10_takes_2 : decode cX10_takes 2 = .ok (.iconst 3, 1) := by decide +kernel
theorem dX10_takes_3 : decode cX10_takes 3 = .ok (.invokevirtual 29, 3) := by decide +kernel
theorem dX10_takes_6 : decode cX10_takes 6 = .ok (.istore_n 2, 1) := by decide +kernel
theorem dX10_takes_7 : decode cX10_takes 7 = .ok (.aload_n 0, 1) := by decide +kernel
theorem dX10_takes_8 : decode cX10_takes 8 = .ok (.iload_n 1, 1) := by decide +kernel
theorem dX10_takes_9 : decode cX10_takes 9 = .ok (.invokevirtual 54, 3) := by decide +kernel
theorem dX10_takes_12 : decode cX10_takes 12 = .ok (.istore_n 3, 1) := by decide +kernel
theorem dX10_takes_13 : decode cX10_takes 13 = .ok (.aload_n 0, 1) := by decide +kernel
theorem dX10_takes_14 : decode cX10_takes 14 = .ok (.iload_n 2, 1) := by decide +kernel
theorem dX10_takes_15 : decode cX10_takes 15 = .ok (.invokevirtual 40, 3) := by decide +kernel
theorem dX10_takes_18 : decode cX10_takes 18 = .ok (.istore 4, 2) := by decide +kernel
theorem dX10_takes_20 : decode cX10_takes 20 = .ok (.iconst 0, 1) := by decide +kernel
theorem dX10_takes_21 : decode cX10_takes 21 = .ok (.istore 5, 2) := by decide +kernel
theorem dX10_takes_23 : decode cX10_takes 23 = .ok (.iconst 1, 1) := by decide +kernel
theorem dX10_takes_24 : decode cX10_takes 24 = .ok (.istore 6, 2) := by decide +kernel
theorem dX10_takes_26 : decode cX10_takes 26 = .ok (.iconst 0, 1) := by decide +kernel
theorem dX10_takes_27 : decode cX10_takes 27 = .ok (.istore 7, 2) := by decide +kernel
theorem dX10_takes_29 : decode cX10_takes 29 = .ok (.iload 7, 2) := by decide +kernel
theorem dX10_takes_31 : decode cX10_takes 31 = .ok (.iload 4, 2) := by decide +kernel
theorem dX10_takes_33 : decode cX10_takes 33 = .ok (.if_icmp .ge 94, 3) := by decide +kernel
theorem dX10_takes_36 : decode cX10_takes 36 = .ok (.aload_n 0, 1) := by decide +kernel
theorem dX10_takes_37 : decode cX10_takes 37 = .ok (.iload_n 2, 1) := by decide +kernel
theorem dX10_takes_38 : decode cX10_takes 38 = .ok (.iload 7, 2) := by decide +kernel
theorem dX10_takes_40 : decode cX10_takes 40 = .ok (.invokevirtual 37, 3) := by decide +kernel
theorem dX10_takes_43 : decode cX10_takes 43 = .ok (.istore 8, 2) := by decide +kernel
theorem dX10_takes_45 : decode cX10_takes 45 = .ok (.iload 7, 2) := by decide +kernel
theorem dX10_takes_47 : decode cX10_takes 47 = .ok (.iload_n 3, 1) := by decide +kernel
theorem dX10_takes_48 : decode cX10_takes 48 = .ok (.if_icmp .gt 18, 3) := by decide +kernel
theorem dX10_takes_51 : decode cX10_takes 51 = .ok (.iload 7, 2) := by decide +kernel
theorem dX10_takes_53 : decode cX10_takes 53 = .ok (.iload_n 3, 1) := by decide +kernel
theorem dX10_takes_54 : decode cX10_takes 54 = .ok (.if_icmp .ge 16, 3) := by decide +kernel
theorem dX10_takes_57 : decode cX10_takes 57 = .ok (.aload_n 0, 1) := by decide +kernel
theorem dX10_takes_58 : decode cX10_takes 58 = .ok (.iload 8, 2) := by decide +kernel
theorem dX10_takes_60 : decode cX10_takes 60 = .ok (.invokevirtual 57, 3) := by decide +kernel
theorem dX10_takes_63 : decode cX10_takes 63 = .ok (.ifCond .ne 7, 3) := by decide +kernel
theorem dX10_takes_66 : decode cX10_takes 66 = .ok (.iconst 1, 1) := by decide +kernel
theorem dX10_takes_67 : decode cX10_takes 67 = .ok (.goto 4, 3) := by decide +kernel
theorem dX10_takes_70 : decode cX10_takes 70 = .ok (.iconst 0, 1) := by decide +kernel
theorem dX10_takes_71 : decode cX10_takes 71 = .ok (.istore 9, 2) := by decide +kernel
theorem dX10_takes_73 : decode cX10_takes 73 = .ok (.iload 7, 2) := by decide +kernel
theorem dX10_takes_75 : decode cX10_takes 75 = .ok (.iload_n 3, 1) := by decide +kernel
theorem dX10_takes_76 : decode cX10_takes 76 = .ok (.if_icmp .ne 18, 3) := by decide +kernel
theorem dX10_takes_79 : decode cX10_takes 79 = .ok (.aload_n 0, 1) := by decide +kernel
theorem dX10_takes_80 : decode cX10_takes 80 = .ok (.iload_n 1, 1) := by decide +kernel
theorem dX10_takes_81 : decode cX10_takes 81 = .ok (.invokevirtual 57, 3) := by decide +kernel
theorem dX10_takes_84 : decode cX10_takes 84 = .ok (.ifCond .ne 7, 3) := by decide +kernel
theorem dX10_takes_87 : decode cX10_takes 87 = .ok (.iconst 1, 1) := by decide +kernel
theorem dX10_takes_88 : decode cX10_takes 88 = .ok (.goto 4, 3) := by decide +kernel
theorem dX10_takes_91 : decode cX10_takes 91 = .ok (.iconst 0, 1) := by decide +kernel
theorem dX10_takes_92 : decode cX10_takes 92 = .ok (.istore 6, 2) := by decide +kernel
theorem dX10_takes_94 : decode cX10_takes 94 = .ok (.iload 9, 2) := by decide +kernel
theorem dX10_takes_96 : decode cX10_takes 96 = .ok (.ifCond .eq 25, 3) := by decide +kernel
theorem dX10_takes_99 : decode cX10_takes 99 = .ok (.aload_n 0, 1) := by decide +kernel
theorem dX10_takes_100 : decode cX10_takes 100 = .ok (.getfield 7, 3) := by decide +kernel
theorem dX10_takes_103 : decode cX10_takes 103 = .ok (.bipush 14, 2) := by decide +kernel
theorem dX10_takes_105 : decode cX10_takes 105 = .ok (.bipush 9, 2) := by decide +kernel
theorem dX10_takes_107 : decode cX10_takes 107 = .ok (.iload_n 2, 1) := by decide +kernel
theorem dX10_takes_108 : decode cX10_takes 108 = .ok (.imul, 1) := by decide +kernel
theorem dX10_takes_109 : decode cX10_takes 109 = .ok (.iadd, 1) := by decide +kernel
theorem dX10_takes_110 : decode cX10_takes 110 = .ok (.iconst 1, 1) := by decide +kernel
theorem dX10_takes_111 : decode cX10_takes 111 = .ok (.iadd, 1) := by decide +kernel
theorem dX10_takes_112 : decode cX10_takes 112 = .ok (.iload 5, 2) := by decide +kernel
theorem dX10_takes_114 : decode cX10_takes 114 = .ok (.iadd, 1) := by decide +kernel
theorem dX10_takes_115 : decode cX10_takes 115 = .ok (.iload 8, 2) := by decide +kernel
theorem dX10_takes_117 : decode cX10_takes 117 = .ok (.iastore, 1) := by decide +kernel
theorem dX10_takes_118 : decode cX10_takes 118 = .ok (.iinc 5 1, 3) := by decide +kernel
theorem dX10_takes_121 : decode cX10_takes 121 = .ok (.iinc 7 1, 3) := by decide +kernel
theorem dX10_takes_124 : decode cX10_takes 124 = .ok (.goto (-95), 3) := by decide +kernel
theorem dX10_takes_127 : decode cX10_takes 127 = .ok (.aload_n 0, 1) := by decide +kernel
theorem dX10_takes_128 : decode cX10_takes 128 = .ok (.getfield 7, 3) := by decide +kernel
theorem dX10_takes_131 : decode cX10_takes 131 = .ok (.bipush 14, 2) := by decide +kernel
theorem dX10_takes_133 : decode cX10_takes 133 = .ok (.bipush 9, 2) := by decide +kernel
theorem dX10_takes_135 : decode cX10_takes 135 = .ok (.iload_n 2, 1) := by decide +kernel
theorem dX10_takes_136 : decode cX10_takes 136 = .ok (.imul, 1) := by decide +kernel
theorem dX10_takes_137 : decode cX10_takes 137 = .ok (.iadd, 1) := by decide +kernel
theorem dX10_takes_138 : decode cX10_takes 138 = .ok (.iload 5, 2) := by decide +kernel
theorem dX10_takes_140 : decode cX10_takes 140 = .ok (.iastore, 1) := by decide +kernel
theorem dX10_takes_141 : decode cX10_takes 141 = .ok (.aload_n 0, 1) := by decide +kernel
theorem dX10_takes_142 : decode cX10_takes 142 = .ok (.getfield 7, 3) := by decide +kernel
theorem dX10_takes_145 : decode cX10_takes 145 = .ok (.bipush 50, 2) := by decide +kernel
theorem dX10_takes_147 : decode cX10_takes 147 = .ok (.iconst 5, 1) := by decide +kernel
theorem dX10_takes_148 : decode cX10_takes 148 = .ok (.iload_n 1, 1) := by decide +kernel
theorem dX10_takes_149 : decode cX10_takes 149 = .ok (.imul, 1) := by decide +kernel
theorem dX10_takes_150 : decode cX10_takes 150 = .ok (.iadd, 1) := by decide +kernel
theorem dX10_takes_151 : decode cX10_takes 151 = .ok (.iconst 3, 1) := by decide +kernel
theorem dX10_takes_152 : decode cX10_takes 152 = .ok (.iadd, 1) := by decide +kernel
theorem dX10_takes_153 : decode cX10_takes 153 = .ok (.iconst (-1), 1) := by decide +kernel
theorem dX10_takes_154 : decode cX10_takes 154 = .ok (.iastore, 1) := by decide +kernel
theorem dX10_takes_155 : decode cX10_takes 155 = .ok (.iload 6, 2) := by decide +kernel
theorem dX10_takes_157 : decode cX10_takes 157 = .ok (.ireturn, 1) := by decide +kernel
theorem dX10_of_0 : decode cX10_of 0 = .ok (.aload_n 0, 1) := by decide +kernel
theorem dX10_of_1 : decode cX10_of 1 = .ok (.getfield 7, 3) := by decide +kernel
theorem dX10_of_4 : decode cX10_of 4 = .ok (.sipush 1050, 3) := by decide +kernel
theorem dX10_of_7 : decode cX10_of 7 = .ok (.bipush 7, 2) := by decide +kernel
theorem dX10_of_9 : decode cX10_of 9 = .ok (.iload_n 1, 1) := by decide +kernel
theorem dX10_of_10 : decode cX10_of 10 = .ok (.imul, 1) := by decide +kernel
theorem dX10_of_11 : decode cX10_of 11 = .ok (.iadd, 1) := by decide +kernel
theorem dX10_of_12 : decode cX10_of 12 = .ok (.iload_n 2, 1) := by decide +kernel
theorem dX10_of_13 : decode cX10_of 13 = .ok (.iadd, 1) := by decide +kernel
theorem dX10_of_14 : decode cX10_of 14 = .ok (.iaload, 1) := by decide +kernel
theorem dX10_of_15 : decode cX10_of 15 = .ok (.ireturn, 1) := by decide +kernel
theorem dX10_isOrder_0 : decode cX10_isOrder 0 = .ok (.iload_n 1, 1) := by decide +kernel
theorem dX10_isOrder_1 : decode cX10_isOrder 1 = .ok (.iconst 0, 1) := by decide +kernel
theorem dX10_isOrder_2 : decode cX10_isOrder 2 = .ok (.aload_n 0, 1) := by decide +kernel
theorem dX10_isOrder_3 : decode cX10_isOrder 3 = .ok (.getfield 7, 3) := by decide +kernel
theorem dX10_isOrder_6 : decode cX10_isOrder 6 = .ok (.bipush 7, 2) := by decide +kernel
theorem dX10_isOrder_8 : decode cX10_isOrder 8 = .ok (.iaload, 1) := by decide +kernel
theorem dX10_isOrder_9 : decode cX10_isOrder 9 = .ok (.iconst 1, 1) := by decide +kernel
theorem dX10_isOrder_10 : decode cX10_isOrder 10 = .ok (.isub, 1) := by decide +kernel
theorem dX10_isOrder_11 : decode cX10_isOrder 11 = .ok (.invokestatic 33, 3) := by decide +kernel
theorem dX10_isOrder_14 : decode cX10_isOrder 14 = .ok (.ireturn, 1) := by decide +kernel
theorem dX10_isOpen_0 : decode cX10_isOpen 0 = .ok (.aload_n 0, 1) := by decide +kernel
theorem dX10_isOpen_1 : decode cX10_isOpen 1 = .ok (.iload_n 1, 1) := by decide +kernel
theorem dX10_isOpen_2 : decode cX10_isOpen 2 = .ok (.iconst 4, 1) := by decide +kernel
theorem dX10_isOpen_3 : decode cX10_isOpen 3 = .ok (.invokevirtual 61, 3) := by decide +kernel
theorem dX10_isOpen_6 : decode cX10_isOpen 6 = .ok (.ifCond .ne 7, 3) := by decide +kernel
theorem dX10_isOpen_9 : decode cX10_isOpen 9 = .ok (.iconst 1, 1) := by decide +kernel
theorem dX10_isOpen_10 : decode cX10_isOpen 10 = .ok (.goto 4, 3) := by decide +kernel
theorem dX10_isOpen_13 : decode cX10_isOpen 13 = .ok (.iconst 0, 1) := by decide +kernel
theorem dX10_isOpen_14 : decode cX10_isOpen 14 = .ok (.ireturn, 1) := by decide +kernel
theorem dX10_isLate_0 : decode cX10_isLate 0 = .ok (.aload_n 0, 1) := by decide +kernel
theorem dX10_isLate_1 : decode cX10_isLate 1 = .ok (.iload_n 1, 1) := by decide +kernel
theorem dX10_isLate_2 : decode cX10_isLate 2 = .ok (.invokevirtual 64, 3) := by decide +kernel
theorem dX10_isLate_5 : decode cX10_isLate 5 = .ok (.ifCond .eq 26, 3) := by decide +kernel
