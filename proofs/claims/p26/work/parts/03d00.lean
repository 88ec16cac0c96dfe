theorem dX0_init_0 : decode cX0_init 0 = .ok (.aload_n 0, 1) := by decide +kernel
theorem dX0_init_1 : decode cX0_init 1 = .ok (.invokespecial 3, 3) := by decide +kernel
theorem dX0_init_4 : decode cX0_init 4 = .ok (.aload_n 0, 1) := by decide +kernel
theorem dX0_init_5 : decode cX0_init 5 = .ok (.bipush 60, 2) := by decide +kernel
theorem dX0_init_7 : decode cX0_init 7 = .ok (.newarray .char, 2) := by decide +kernel
theorem dX0_init_9 : decode cX0_init 9 = .ok (.putfield 9, 3) := by decide +kernel
theorem dX0_init_12 : decode cX0_init 12 = .ok (.aload_n 0, 1) := by decide +kernel
theorem dX0_init_13 : decode cX0_init 13 = .ok (.iconst 0, 1) := by decide +kernel
theorem dX0_init_14 : decode cX0_init 14 = .ok (.putfield 15, 3) := by decide +kernel
theorem dX0_init_17 : decode cX0_init 17 = .ok (.aload_n 0, 1) := by decide +kernel
theorem dX0_init_18 : decode cX0_init 18 = .ok (.iconst 0, 1) := by decide +kernel
theorem dX0_init_19 : decode cX0_init 19 = .ok (.putfield 19, 3) := by decide +kernel
theorem dX0_init_22 : decode cX0_init 22 = .ok (.aload_n 0, 1) := by decide +kernel
theorem dX0_init_23 : decode cX0_init 23 = .ok (.iconst 0, 1) := by decide +kernel
theorem dX0_init_24 : decode cX0_init 24 = .ok (.putfield 22, 3) := by decide +kernel
theorem dX0_init_27 : decode cX0_init 27 = .ok (.aload_n 0, 1) := by decide +kernel
theorem dX0_init_28 : decode cX0_init 28 = .ok (.iconst 0, 1) := by decide +kernel
theorem dX0_init_29 : decode cX0_init 29 = .ok (.putfield 26, 3) := by decide +kernel
theorem dX0_init_32 : decode cX0_init 32 = .ok (.aload_n 0, 1) := by decide +kernel
theorem dX0_init_33 : decode cX0_init 33 = .ok (.iconst 0, 1) := by decide +kernel
theorem dX0_init_34 : decode cX0_init 34 = .ok (.putfield 29, 3) := by decide +kernel
theorem dX0_init_37 : decode cX0_init 37 = .ok (.aload_n 0, 1) := by decide +kernel
theorem dX0_init_38 : decode cX0_init 38 = .ok (.iconst 0, 1) := by decide +kernel
theorem dX0_init_39 : decode cX0_init 39 = .ok (.putfield 32, 3) := by decide +kernel
theorem dX0_init_42 : decode cX0_init 42 = .ok (.aload_n 0, 1) := by decide +kernel
theorem dX0_init_43 : decode cX0_init 43 = .ok (.iconst 0, 1) := by decide +kernel
theorem dX0_init_44 : decode cX0_init 44 = .ok (.putfield 35, 3) := by decide +kernel
theorem dX0_init_47 : decode cX0_init 47 = .ok (.aload_n 0, 1) := by decide +kernel
theorem dX0_init_48 : decode cX0_init 48 = .ok (.iconst 0, 1) := by decide +kernel
theorem dX0_init_49 : decode cX0_init 49 = .ok (.putfield 38, 3) := by decide +kernel
theorem dX0_init_52 : decode cX0_init 52 = .ok (.aload_n 0, 1) := by decide +kernel
theorem dX0_init_53 : decode cX0_init 53 = .ok (.iconst 0, 1) := by decide +kernel
theorem dX0_init_54 : decode cX0_init 54 = .ok (.putfield 41, 3) := by decide +kernel
theorem dX0_init_57 : decode cX0_init 57 = .ok (.aload_n 0, 1) := by decide +kernel
theorem dX0_init_58 : decode cX0_init 58 = .ok (.iconst 0, 1) := by decide +kernel
theorem dX0_init_59 : decode cX0_init 59 = .ok (.putfield 44, 3) := by decide +kernel
theorem dX0_init_62 : decode cX0_init 62 = .ok (.aload_n 0, 1) := by decide +kernel
theorem dX0_init_63 : decode cX0_init 63 = .ok (.iconst 0, 1) := by decide +kernel
theorem dX0_init_64 : decode cX0_init 64 = .ok (.putfield 47, 3) := by decide +kernel
theorem dX0_init_67 : decode cX0_init 67 = .ok (.return_, 1) := by decide +kernel
theorem dX0_commandsOrFault_0 : decode cX0_commandsOrFault 0 = .ok (.aload_n 0, 1) := by decide +kernel
theorem dX0_commandsOrFault_1 : decode cX0_commandsOrFault 1 = .ok (.invokevirtual 50, 3) := by decide +kernel
theorem dX0_commandsOrFault_4 : decode cX0_commandsOrFault 4 = .ok (.iconst 1, 1) := by decide +kernel
theorem dX0_commandsOrFault_5 : decode cX0_commandsOrFault 5 = .ok (.istore_n 1, 1) := by decide +kernel
theorem dX0_commandsOrFault_6 : decode cX0_commandsOrFault 6 = .ok (.iload_n 1, 1) := by decide +kernel
theorem dX0_commandsOrFault_7 : decode cX0_commandsOrFault 7 = .ok (.bipush 60, 2) := by decide +kernel
theorem dX0_commandsOrFault_9 : decode cX0_commandsOrFault 9 = .ok (.if_icmp .gt 36, 3) := by decide +kernel
theorem dX0_commandsOrFault_12 : decode cX0_commandsOrFault 12 = .ok (.aload_n 0, 1) := by decide +kernel
theorem dX0_commandsOrFault_13 : decode cX0_commandsOrFault 13 = .ok (.invokevirtual 53, 3) := by decide +kernel
theorem dX0_commandsOrFault_16 : decode cX0_commandsOrFault 16 = .ok (.aload_n 0, 1) := by decide +kernel
theorem dX0_commandsOrFault_17 : decode cX0_commandsOrFault 17 = .ok (.getfield 22, 3) := by decide +kernel
theorem dX0_commandsOrFault_20 : decode cX0_commandsOrFault 20 = .ok (.ifCond .eq 6, 3) := by decide +kernel
theorem dX0_commandsOrFault_23 : decode cX0_commandsOrFault 23 = .ok (.goto 22, 3) := by decide +kernel
theorem dX0_commandsOrFault_26 : decode cX0_commandsOrFault 26 = .ok (.aload_n 0, 1) := by decide +kernel
theorem dX0_commandsOrFault_27 : decode cX0_commandsOrFault 27 = .ok (.getfield 19, 3) := by decide +kernel
theorem dX0_commandsOrFault_30 : decode cX0_commandsOrFault 30 = .ok (.aload_n 0, 1) := by decide +kernel
theorem dX0_commandsOrFault_31 : decode cX0_commandsOrFault 31 = .ok (.getfield 15, 3) := by decide +kernel
theorem dX0_commandsOrFault_34 : decode cX0_commandsOrFault 34 = .ok (.if_icmp .lt 5, 3) := by decide +kernel
theorem dX0_commandsOrFault_37 : decode cX0_commandsOrFault 37 = .ok (.iload_n 1, 1) := by decide +kernel
theorem dX0_commandsOrFault_38 : decode cX0_commandsOrFault 38 = .ok (.ireturn, 1) := by decide +kernel
theorem dX0_commandsOrFault_39 : decode cX0_commandsOrFault 39 = .ok (.iinc 1 1, 3) := by decide +kernel
theorem dX0_commandsOrFault_42 : decode cX0_commandsOrFault 42 = .ok (.goto (-36), 3) := by decide +kernel
theorem dX0_commandsOrFault_45 : decode cX0_commandsOrFault 45 = .ok (.bipush (-100), 2) := by decide +kernel
theorem dX0_commandsOrFault_47 : decode cX0_commandsOrFault 47 = .ok (.aload_n 0, 1) := by decide +kernel
theorem dX0_commandsOrFault_48 : decode cX0_commandsOrFault 48 = .ok (.getfield 19, 3) := by decide +kernel
theorem dX0_commandsOrFault_51 : decode cX0_commandsOrFault 51 = .ok (.isub, 1) := by decide +kernel
theorem dX0_commandsOrFault_52 : decode cX0_commandsOrFault 52 = .ok (.ireturn, 1) := by decide +kernel
theorem dX0_rewind_0 : decode cX0_rewind 0 = .ok (.aload_n 0, 1) := by decide +kernel
theorem dX0_rewind_1 : decode cX0_rewind 1 = .ok (.iconst 0, 1) := by decide +kernel
theorem dX0_rewind_2 : decode cX0_rewind 2 = .ok (.putfield 19, 3) := by decide +kernel
theorem dX0_rewind_5 : decode cX0_rewind 5 = .ok (.aload_n 0, 1) := by decide +kernel
theorem dX0_rewind_6 : decode cX0_rewind 6 = .ok (.iconst 0, 1) := by decide +kernel
theorem dX0_rewind_7 : decode cX0_rewind 7 = .ok (.putfield 22, 3) := by decide +kernel
theorem dX0_rewind_10 : decode cX0_rewind 10 = .ok (.return_, 1) := by decide +kernel
theorem dX0_readCommand_0 : decode cX0_readCommand 0 = .ok (.aload_n 0, 1) := by decide +kernel
theorem dX0_readCommand_1 : decode cX0_readCommand 1 = .ok (.getfield 19, 3) := by decide +kernel
theorem dX0_readCommand_4 : decode cX0_readCommand 4 = .ok (.ifCond .le 9, 3) := by decide +kernel
theorem dX0_readCommand_7 : decode cX0_readCommand 7 = .ok (.aload_n 0, 1) := by decide +kernel
theorem dX0_readCommand_8 : decode cX0_readCommand 8 = .ok (.bipush 59, 2) := by decide +kernel
theorem dX0_readCommand_10 : decode cX0_readCommand 10 = .ok (.invokevirtual 56, 3) := by decide +kernel
theorem dX0_readCommand_13 : decode cX0_readCommand 13 = .ok (.aload_n 0, 1) := by decide +kernel
theorem dX0_readCommand_14 : decode cX0_readCommand 14 = .ok (.aload_n 0, 1) := by decide +kernel
theorem dX0_readCommand_15 : decode cX0_readCommand 15 = .ok (.invokevirtual 60, 3) := by decide +kernel
theorem dX0_readCommand_18 : decode cX0_readCommand 18 = .ok (.putfield 26, 3) := by decide +kernel
theorem dX0_readCommand_21 : decode cX0_readCommand 21 = .ok (.aload_n 0, 1) := by decide +kernel
theorem dX0_readCommand_22 : decode cX0_readCommand 22 = .ok (.getfield 26, 3) := by decide +kernel
theorem dX0_readCommand_25 : decode cX0_readCommand 25 = .ok (.lookupswitch 88 #[(100, 72), (111, 50), (112, 57), (115, 43)], 43) := by decide +kernel
theorem dX0_readCommand_68 : decode cX0_readCommand 68 = .ok (.aload_n 0, 1) := by decide +kernel
theorem dX0_readCommand_69 : decode cX0_readCommand 69 = .ok (.invokevirtual 64, 3) := by decide +kernel
theorem dX0_readCommand_72 : decode cX0_readCommand 72 = .ok (.goto 46, 3) := by decide +kernel
theorem dX0_readCommand_75 : decode cX0_readCommand 75 = .ok (.aload_n 0, 1) := by decide +kernel
theorem dX0_readCommand_76 : decode cX0_readCommand 76 = .ok (.invokevirtual 67, 3) := by decide +kernel
theorem dX0_readCommand_79 : decode cX0_readCommand 79 = .ok (.goto 39, 3) := by decide +kernel
theorem dX0_readCommand_82 : decode cX0_readCommand 82 = .ok (.aload_n 0, 1) := by decide +kernel
theorem dX0_readCommand_83 : decode cX0_readCommand 83 = .ok (.aload_n 0, 1) := by decide +kernel
theorem dX0_readCommand_84 : decode cX0_readCommand 84 = .ok (.bipush 112, 2) := by decide +kernel
theorem dX0_readCommand_86 : decode cX0_readCommand 86 = .ok (.iconst 0, 1) := by decide +kernel
theorem dX0_readCommand_87 : decode cX0_readCommand 87 = .ok (.iconst 2, 1) := by decide +kernel
theorem dX0_readCommand_88 : decode cX0_readCommand 88 = .ok (.invokevirtual 70, 3) := by decide +kernel
theorem dX0_readCommand_91 : decode cX0_readCommand 91 = .ok (.putfield 44, 3) := by decide +kernel
theorem dX0_readCommand_94 : decode cX0_readCommand 94 = .ok (.goto 24, 3) := by decide +kernel
theorem dX0_readCommand_97 : decode cX0_readCommand 97 = .ok (.aload_n 0, 1) := by decide +kernel
theorem dX0_readCommand_98 : decode cX0_readCommand 98 = .ok (.aload_n 0, 1) := by decide +kernel
theorem dX0_readCommand_99 : decode cX0_readCommand 99 = .ok (.bipush 100, 2) := by decide +kernel
theorem dX0_readCommand_101 : decode cX0_readCommand 101 = .ok (.iconst 1, 1) := by decide +kernel
theorem dX0_readCommand_102 : decode cX0_readCommand 102 = .ok (.bipush 99, 2) := by decide +kernel
theorem dX0_readCommand_104 : decode cX0_readCommand 104 = .ok (.invokevirtual 70, 3) := by decide +kernel
theorem dX0_readCommand_107 : decode cX0_readCommand 107 = .ok (.putfield 47, 3) := by decide +kernel
theorem dX0_readCommand_110 : decode cX0_readCommand 110 = .ok (.goto 8, 3) := by decide +kernel
theorem dX0_readCommand_113 : decode cX0_readCommand 113 = .ok (.aload_n 0, 1) := by decide +kernel
theorem dX0_readCommand_114 : decode cX0_readCommand 114 = .ok (.iconst 1, 1) := by decide +kernel
theorem dX0_readCommand_115 : decode cX0_readCommand 115 = .ok (.putfield 22, 3) := by decide +kernel
theorem dX0_readCommand_118 : decode cX0_readCommand 118 = .ok (.return_, 1) := by decide +kernel
theorem dX0_readPurchase_0 : decode cX0_readPurchase 0 = .ok (.aload_n 0, 1) := by decide +kernel
theorem dX0_readPurchase_1 : decode cX0_readPurchase 1 = .ok (.aload_n 0, 1) := by decide +kernel
theorem dX0_readPurchase_2 : decode cX0_readPurchase 2 = .ok (.bipush 115, 2) := by decide +kernel
theorem dX0_readPurchase_4 : decode cX0_readPurchase 4 = .ok (.iconst 0, 1) := by decide +kernel
theorem dX0_readPurchase_5 : decode cX0_readPurchase 5 = .ok (.iconst 3, 1) := by decide +kernel
theorem dX0_readPurchase_6 : decode cX0_readPurchase 6 = .ok (.invokevirtual 70, 3) := by decide +kernel
theorem dX0_readPurchase_9 : decode cX0_readPurchase 9 = .ok (.putfield 29, 3) := by decide +kernel
theorem dX0_readPurchase_12 : decode cX0_readPurchase 12 = .ok (.aload_n 0, 1) := by decide +kernel
theorem dX0_readPurchase_13 : decode cX0_readPurchase 13 = .ok (.aload_n 0, 1) := by decide +kernel
theorem dX0_readPurchase_14 : decode cX0_readPurchase 14 = .ok (.bipush 58, 2) := by decide +kernel
theorem dX0_readPurchase_16 : decode cX0_readPurchase 16 = .ok (.iconst 0, 1) := by decide +kernel
theorem dX0_readPurchase_17 : decode cX0_readPurchase 17 = .ok (.iconst 2, 1) := by decide +kernel
theorem dX0_readPurchase_18 : decode cX0_readPurchase 18 = .ok (.invokevirtual 70, 3) := by decide +kernel
theorem dX0_readPurchase_21 : decode cX0_readPurchase 21 = .ok (.putfield 32, 3) := by decide +kernel
theorem dX0_readPurchase_24 : decode cX0_readPurchase 24 = .ok (.aload_n 0, 1) := by decide +kernel
theorem dX0_readPurchase_25 : decode cX0_readPurchase 25 = .ok (.aload_n 0, 1) := by decide +kernel
theorem dX0_readPurchase_26 : decode cX0_readPurchase 26 = .ok (.bipush 44, 2) := by decide +kernel
theorem dX0_readPurchase_28 : decode cX0_readPurchase 28 = .ok (.iconst 1, 1) := by decide +kernel
theorem dX0_readPurchase_29 : decode cX0_readPurchase 29 = .ok (.bipush 99, 2) := by decide +kernel
theorem dX0_readPurchase_31 : decode cX0_readPurchase 31 = .ok (.invokevirtual 70, 3) := by decide +kernel
theorem dX0_readPurchase_34 : decode cX0_readPurchase 34 = .ok (.putfield 35, 3) := by decide +kernel
theorem dX0_readPurchase_37 : decode cX0_readPurchase 37 = .ok (.aload_n 0, 1) := by decide +kernel
theorem dX0_readPurchase_38 : decode cX0_readPurchase 38 = .ok (.aload_n 0, 1) := by decide +kernel
theorem dX0_readPurchase_39 : decode cX0_readPurchase 39 = .ok (.bipush 120, 2) := by decide +kernel
theorem dX0_readPurchase_41 : decode cX0_readPurchase 41 = .ok (.iconst 1, 1) := by decide +kernel
theorem dX0_readPurchase_42 : decode cX0_readPurchase 42 = .ok (.bipush 99, 2) := by decide +kernel
theorem dX0_readPurchase_44 : decode cX0_readPurchase 44 = .ok (.invokevirtual 70, 3) := by decide +kernel
theorem dX0_readPurchase_47 : decode cX0_readPurchase 47 = .ok (.putfield 38, 3) := by decide +kernel
theorem dX0_readPurchase_50 : decode cX0_readPurchase 50 = .ok (.return_, 1) := by decide +kernel
theorem dX0_readOrder_0 : decode cX0_readOrder 0 = .ok (.aload_n 0, 1) := by decide +kernel
theorem dX0_readOrder_1 : decode cX0_readOrder 1 = .ok (.aload_n 0, 1) := by decide +kernel
theorem dX0_readOrder_2 : decode cX0_readOrder 2 = .ok (.bipush 111, 2) := by decide +kernel
theorem dX0_readOrder_4 : decode cX0_readOrder 4 = .ok (.iconst 0, 1) := by decide +kernel
theorem dX0_readOrder_5 : decode cX0_readOrder 5 = .ok (.iconst 2, 1) := by decide +kernel
theorem dX0_readOrder_6 : decode cX0_readOrder 6 = .ok (.invokevirtual 70, 3) := by decide +kernel
theorem dX0_readOrder_9 : decode cX0_readOrder 9 = .ok (.putfield 32, 3) := by decide +kernel
theorem dX0_readOrder_12 : decode cX0_readOrder 12 = .ok (.aload_n 0, 1) := by decide +kernel
theorem dX0_readOrder_13 : decode cX0_readOrder 13 = .ok (.aload_n 0, 1) := by decide +kernel
theorem dX0_readOrder_14 : decode cX0_readOrder 14 = .ok (.bipush 44, 2) := by decide +kernel
theorem dX0_readOrder_16 : decode cX0_readOrder 16 = .ok (.iconst 1, 1) := by decide +kernel
theorem dX0_readOrder_17 : decode cX0_readOrder 17 = .ok (.bipush 99, 2) := by decide +kernel
theorem dX0_readOrder_19 : decode cX0_readOrder 19 = .ok (.invokevirtual 70, 3) := by decide +kernel
theorem dX0_readOrder_22 : decode cX0_readOrder 22 = .ok (.putfield 35, 3) := by decide +kernel
theorem dX0_readOrder_25 : decode cX0_readOrder 25 = .ok (.aload_n 0, 1) := by decide +kernel
theorem dX0_readOrder_26 : decode cX0_readOrder 26 = .ok (.aload_n 0, 1) := by decide +kernel
theorem dX0_readOrder_27 : decode cX0_readOrder 27 = .ok (.bipush 120, 2) := by decide +kernel
theorem dX0_readOrder_29 : decode cX0_readOrder 29 = .ok (.iconst 1, 1) := by decide +kernel
theorem dX0_readOrder_30 : decode cX0_readOrder 30 = .ok (.bipush 99, 2) := by decide +kernel
theorem dX0_readOrder_32 : decode cX0_readOrder 32 = .ok (.invokevirtual 70, 3) := by decide +kernel
theorem dX0_readOrder_35 : decode cX0_readOrder 35 = .ok (.putfield 38, 3) := by decide +kernel
theorem dX0_readOrder_38 : decode cX0_readOrder 38 = .ok (.aload_n 0, 1) := by decide +kernel
theorem dX0_readOrder_39 : decode cX0_readOrder 39 = .ok (.aload_n 0, 1) := by decide +kernel
theorem dX0_readOrder_40 : decode cX0_readOrder 40 = .ok (.bipush 64, 2) := by decide +kernel
theorem dX0_readOrder_42 : decode cX0_readOrder 42 = .ok (.iconst 0, 1) := by decide +kernel
theorem dX0_readOrder_43 : decode cX0_readOrder 43 = .ok (.sipush 999, 3) := by decide +kernel
theorem dX0_readOrder_46 : decode cX0_readOrder 46 = .ok (.invokevirtual 70, 3) := by decide +kernel
theorem dX0_readOrder_49 : decode cX0_readOrder 49 = .ok (.putfield 41, 3) := by decide +kernel
theorem dX0_readOrder_52 : decode cX0_readOrder 52 = .ok (.return_, 1) := by decide +kernel
theorem dX0_numberBehind_0 : decode cX0_numberBehind 0 = .ok (.aload_n 0, 1) := by decide +kernel
theorem dX0_numberBehind_1 : decode cX0_numberBehind 1 = .ok (.iload_n 1, 1) := by decide +kernel
theorem dX0_numberBehind_2 : decode cX0_numberBehind 2 = .ok (.invokevirtual 56, 3) := by decide +kernel
theorem dX0_numberBehind_5 : decode cX0_numberBehind 5 = .ok (.aload_n 0, 1) := by decide +kernel
theorem dX0_numberBehind_6 : decode cX0_numberBehind 6 = .ok (.invokevirtual 74, 3) := by decide +kernel
theorem dX0_numberBehind_9 : decode cX0_numberBehind 9 = .ok (.istore 4, 2) := by decide +kernel
theorem dX0_numberBehind_11 : decode cX0_numberBehind 11 = .ok (.aload_n 0, 1) := by decide +kernel
theorem dX0_numberBehind_12 : decode cX0_numberBehind 12 = .ok (.getfield 22, 3) := by decide +kernel
theorem dX0_numberBehind_15 : decode cX0_numberBehind 15 = .ok (.ifCond .ne 15, 3) := by decide +kernel
theorem dX0_numberBehind_18 : decode cX0_numberBehind 18 = .ok (.iload 4, 2) := by decide +kernel
theorem dX0_numberBehind_20 : decode cX0_numberBehind 20 = .ok (.iload_n 2, 1) := by decide +kernel
theorem dX0_numberBehind_21 : decode cX0_numberBehind 21 = .ok (.if_icmp .lt 9, 3) := by decide +kernel
theorem dX0_numberBehind_24 : decode cX0_numberBehind 24 = .ok (.iload 4, 2) := by decide +kernel
theorem dX0_numberBehind_26 : decode cX0_numberBehind 26 = .ok (.iload_n 3, 1) := by decide +kernel
theorem dX0_numberBehind_27 : decode cX0_numberBehind 27 = .ok (.if_icmp .le 10, 3) := by decide +kernel
theorem dX0_numberBehind_30 : decode cX0_numberBehind 30 = .ok (.aload_n 0, 1) := by decide +kernel
theorem dX0_numberBehind_31 : decode cX0_numberBehind 31 = .ok (.iconst 1, 1) := by decide +kernel
theorem dX0_numberBehind_32 : decode cX0_numberBehind 32 = .ok (.putfield 22, 3) := by decide +kernel
theorem dX0_numberBehind_35 : decode cX0_numberBehind 35 = .ok (.iload_n 2, 1) := by decide +kernel
theorem dX0_numberBehind_36 : decode cX0_numberBehind 36 = .ok (.ireturn, 1) := by decide +kernel
theorem dX0_numberBehind_37 : decode cX0_numberBehind 37 = .ok (.aload_n 0, 1) := by decide +kernel
theorem dX0_numberBehind_38 : decode cX0_numberBehind 38 = .ok (.dup, 1) := by decide +kernel
theorem dX0_numberBehind_39 : decode cX0_numberBehind 39 = .ok (.getfield 19, 3) := by decide +kernel
theorem dX0_numberBehind_42 : decode cX0_numberBehind 42 = .ok (.iconst 1, 1) := by decide +kernel
theorem dX0_numberBehind_43 : decode cX0_numberBehind 43 = .ok (.iadd, 1) := by decide +kernel
theorem dX0_numberBehind_44 : decode cX0_numberBehind 44 = .ok (.putfield 19, 3) := by decide +kernel
theorem dX0_numberBehind_47 : decode cX0_numberBehind 47 = .ok (.iconst 1, 1) := by decide +kernel
theorem dX0_numberBehind_48 : decode cX0_numberBehind 48 = .ok (.istore 5, 2) := by decide +kernel
theorem dX0_numberBehind_50 : decode cX0_numberBehind 50 = .ok (.iload 5, 2) := by decide +kernel
theorem dX0_numberBehind_52 : decode cX0_numberBehind 52 = .ok (.bipush 60, 2) := by decide +kernel
theorem dX0_numberBehind_54 : decode cX0_numberBehind 54 = .ok (.if_icmp .ge 60, 3) := by decide +kernel
theorem dX0_numberBehind_57 : decode cX0_numberBehind 57 = .ok (.iload 4, 2) := by decide +kernel
theorem dX0_numberBehind_59 : decode cX0_numberBehind 59 = .ok (.ifCond .le 55, 3) := by decide +kernel
theorem dX0_numberBehind_62 : decode cX0_numberBehind 62 = .ok (.aload_n 0, 1) := by decide +kernel
theorem dX0_numberBehind_63 : decode cX0_numberBehind 63 = .ok (.invokevirtual 74, 3) := by decide +kernel
theorem dX0_numberBehind_66 : decode cX0_numberBehind 66 = .ok (.istore 6, 2) := by decide +kernel
theorem dX0_numberBehind_68 : decode cX0_numberBehind 68 = .ok (.iload 6, 2) := by decide +kernel
theorem dX0_numberBehind_70 : decode cX0_numberBehind 70 = .ok (.ifCond .lt 44, 3) := by decide +kernel
theorem dX0_numberBehind_73 : decode cX0_numberBehind 73 = .ok (.iload 4, 2) := by decide +kernel
theorem dX0_numberBehind_75 : decode cX0_numberBehind 75 = .ok (.bipush 10, 2) := by decide +kernel
theorem dX0_numberBehind_77 : decode cX0_numberBehind 77 = .ok (.imul, 1) := by decide +kernel
theorem dX0_numberBehind_78 : decode cX0_numberBehind 78 = .ok (.iload 6, 2) := by decide +kernel
theorem dX0_numberBehind_80 : decode cX0_numberBehind 80 = .ok (.iadd, 1) := by decide +kernel
theorem dX0_numberBehind_81 : decode cX0_numberBehind 81 = .ok (.iload_n 3, 1) := by decide +kernel
theorem dX0_numberBehind_82 : decode cX0_numberBehind 82 = .ok (.if_icmp .le 6, 3) := by decide +kernel
theorem dX0_numberBehind_85 : decode cX0_numberBehind 85 = .ok (.goto 29, 3) := by decide +kernel
theorem dX0_numberBehind_88 : decode cX0_numberBehind 88 = .ok (.iload 4, 2) := by decide +kernel
theorem dX0_numberBehind_90 : decode cX0_numberBehind 90 = .ok (.bipush 10, 2) := by decide +kernel
theorem dX0_numberBehind_92 : decode cX0_numberBehind 92 = .ok (.imul, 1) := by decide +kernel
theorem dX0_numberBehind_93 : decode cX0_numberBehind 93 = .ok (.iload 6, 2) := by decide +kernel
theorem dX0_numberBehind_95 : decode cX0_numberBehind 95 = .ok (.iadd, 1) := by decide +kernel
theorem dX0_numberBehind_96 : decode cX0_numberBehind 96 = .ok (.istore 4, 2) := by decide +kernel
theorem dX0_numberBehind_98 : decode cX0_numberBehind 98 = .ok (.aload_n 0, 1) := by decide +kernel
theorem dX0_numberBehind_99 : decode cX0_numberBehind 99 = .ok (.dup, 1) := by decide +kernel
theorem dX0_numberBehind_100 : decode cX0_numberBehind 100 = .ok (.getfield 19, 3) := by decide +kernel
theorem dX0_numberBehind_103 : decode cX0_numberBehind 103 = .ok (.iconst 1, 1) := by decide +kernel
theorem dX0_numberBehind_104 : decode cX0_numberBehind 104 = .ok (.iadd, 1) := by decide +kernel
theorem dX0_numberBehind_105 : decode cX0_numberBehind 105 = .ok (.putfield 19, 3) := by decide +kernel
theorem dX0_numberBehind_108 : decode cX0_numberBehind 108 = .ok (.iinc 5 1, 3) := by decide +kernel
theorem dX0_numberBehind_111 : decode cX0_numberBehind 111 = .ok (.goto (-61), 3) := by decide +kernel
theorem dX0_numberBehind_114 : decode cX0_numberBehind 114 = .ok (.iload 4, 2) := by decide +kernel
theorem dX0_numberBehind_116 : decode cX0_numberBehind 116 = .ok (.ireturn, 1) := by decide +kernel
theorem dX0_expect_0 : decode cX0_expect 0 = .ok (.aload_n 0, 1) := by decide +kernel
theorem dX0_expect_1 : decode cX0_expect 1 = .ok (.getfield 22, 3) := by decide +kernel
theorem dX0_expect_4 : decode cX0_expect 4 = .ok (.ifCond .ne 11, 3) := by decide +kernel
theorem dX0_expect_7 : decode cX0_expect 7 = .ok (.aload_n 0, 1) := by decide +kernel
theorem dX0_expect_8 : decode cX0_expect 8 = .ok (.invokevirtual 60, 3) := by decide +kernel
theorem dX0_expect_11 : decode cX0_expect 11 = .ok (.iload_n 1, 1) := by decide +kernel
theorem dX0_expect_12 : decode cX0_expect 12 = .ok (.if_icmp .eq 11, 3) := by decide +kernel
theorem dX0_expect_15 : decode cX0_expect 15 = .ok (.aload_n 0, 1) := by decide +kernel
theorem dX0_expect_16 : decode cX0_expect 16 = .ok (.iconst 1, 1) := by decide +kernel
theorem dX0_expect_17 : decode cX0_expect 17 = .ok (.putfield 22, 3) := by decide +kernel
theorem dX0_expect_20 : decode cX0_expect 20 = .ok (.goto 13, 3) := by decide +kernel
theorem dX0_expect_23 : decode cX0_expect 23 = .ok (.aload_n 0, 1) := by decide +kernel
theorem dX0_expect_24 : decode cX0_expect 24 = .ok (.dup, 1) := by decide +kernel
theorem dX0_expect_25 : decode cX0_expect 25 = .ok (.getfield 19, 3) := by decide +kernel
theorem dX0_expect_28 : decode cX0_expect 28 = .ok (.iconst 1, 1) := by decide +kernel
theorem dX0_expect_29 : decode cX0_expect 29 = .ok (.iadd, 1) := by decide +kernel
theorem dX0_expect_30 : decode cX0_expect 30 = .ok (.putfield 19, 3) := by decide +kernel
theorem dX0_expect_33 : decode cX0_expect 33 = .ok (.return_, 1) := by decide +kernel
theorem dX0_digitHere_0 : decode cX0_digitHere 0 = .ok (.aload_n 0, 1) := by decide +kernel
theorem dX0_digitHere_1 : decode cX0_digitHere 1 = .ok (.invokevirtual 60, 3) := by decide +kernel
theorem dX0_digitHere_4 : decode cX0_digitHere 4 = .ok (.istore_n 1, 1) := by decide +kernel
theorem dX0_digitHere_5 : decode cX0_digitHere 5 = .ok (.iload_n 1, 1) := by decide +kernel
theorem dX0_digitHere_6 : decode cX0_digitHere 6 = .ok (.bipush 48, 2) := by decide +kernel
theorem dX0_digitHere_8 : decode cX0_digitHere 8 = .ok (.if_icmp .lt 16, 3) := by decide +kernel
theorem dX0_digitHere_11 : decode cX0_digitHere 11 = .ok (.iload_n 1, 1) := by decide +kernel
theorem dX0_digitHere_12 : decode cX0_digitHere 12 = .ok (.bipush 57, 2) := by decide +kernel
theorem dX0_digitHere_14 : decode cX0_digitHere 14 = .ok (.if_icmp .gt 10, 3) := by decide +kernel
theorem dX0_digitHere_17 : decode cX0_digitHere 17 = .ok (.iload_n 1, 1) := by decide +kernel
theorem dX0_digitHere_18 : decode cX0_digitHere 18 = .ok (.bipush 48, 2) := by decide +kernel
theorem dX0_digitHere_20 : decode cX0_digitHere 20 = .ok (.isub, 1) := by decide +kernel
theorem dX0_digitHere_21 : decode cX0_digitHere 21 = .ok (.goto 4, 3) := by decide +kernel
theorem dX0_digitHere_24 : decode cX0_digitHere 24 = .ok (.iconst (-1), 1) := by decide +kernel
theorem dX0_digitHere_25 : decode cX0_digitHere 25 = .ok (.ireturn, 1) := by decide +kernel
theorem dX0_here_0 : decode cX0_here 0 = .ok (.aload_n 0, 1) := by decide +kernel
theorem dX0_here_1 : decode cX0_here 1 = .ok (.getfield 19, 3) := by decide +kernel
theorem dX0_here_4 : decode cX0_here 4 = .ok (.ifCond .lt 38, 3) := by decide +kernel
theorem dX0_here_7 : decode cX0_here 7 = .ok (.aload_n 0, 1) := by decide +kernel
theorem dX0_here_8 : decode cX0_here 8 = .ok (.getfield 19, 3) := by decide +kernel
theorem dX0_here_11 : decode cX0_here 11 = .ok (.aload_n 0, 1) := by decide +kernel
theorem dX0_here_12 : decode cX0_here 12 = .ok (.getfield 15, 3) := by decide +kernel
theorem dX0_here_15 : decode cX0_here 15 = .ok (.if_icmp .ge 27, 3) := by decide +kernel
theorem dX0_here_18 : decode cX0_here 18 = .ok (.aload_n 0, 1) := by decide +kernel
theorem dX0_here_19 : decode cX0_here 19 = .ok (.getfield 19, 3) := by decide +kernel
theorem dX0_here_22 : decode cX0_here 22 = .ok (.aload_n 0, 1) := by decide +kernel
theorem dX0_here_23 : decode cX0_here 23 = .ok (.getfield 9, 3) := by decide +kernel
theorem dX0_here_26 : decode cX0_here 26 = .ok (.arraylength, 1) := by decide +kernel
theorem dX0_here_27 : decode cX0_here 27 = .ok (.if_icmp .ge 15, 3) := by decide +kernel
theorem dX0_here_30 : decode cX0_here 30 = .ok (.aload_n 0, 1) := by decide +kernel
theorem dX0_here_31 : decode cX0_here 31 = .ok (.getfield 9, 3) := by decide +kernel
theorem dX0_here_34 : decode cX0_here 34 = .ok (.aload_n 0, 1) := by decide +kernel
theorem dX0_here_35 : decode cX0_here 35 = .ok (.getfield 19, 3) := by decide +kernel
theorem dX0_here_38 : decode cX0_here 38 = .ok (.caload, 1) := by decide +kernel
theorem dX0_here_39 : decode cX0_here 39 = .ok (.goto 4, 3) := by decide +kernel
theorem dX0_here_42 : decode cX0_here 42 = .ok (.iconst (-1), 1) := by decide +kernel
theorem dX0_here_43 : decode cX0_here 43 = .ok (.ireturn, 1) := by decide +kernel
theorem dX1_init_0 : decode cX1_init 0 = .ok (.aload_n 0, 1) := by decide +kernel
theorem dX1_init_1 : decode cX1_init 1 = .ok (.invokespecial 1, 3) := by decide +kernel
theorem dX1_init_4 : decode cX1_init 4 = .ok (.aload_n 0, 1) := by decide +kernel
theorem dX1_init_5 : decode cX1_init 5 = .ok (.iconst 0, 1) := by decide +kernel
theorem dX1_init_6 : decode cX1_init 6 = .ok (.putfield 7, 3) := by decide +kernel
theorem dX1_init_9 : decode cX1_init 9 = .ok (.aload_n 0, 1) := by decide +kernel
theorem dX1_init_10 : decode cX1_init 10 = .ok (.iconst 0, 1) := by decide +kernel
theorem dX1_init_11 : decode cX1_init 11 = .ok (.putfield 13, 3) := by decide +kernel
theorem dX1_init_14 : decode cX1_init 14 = .ok (.aload_n 0, 1) := by decide +kernel
theorem dX1_init_15 : decode cX1_init 15 = .ok (.iconst 0, 1) := by decide +kernel
theorem dX1_init_16 : decode cX1_init 16 = .ok (.putfield 17, 3) := by decide +kernel
theorem dX1_init_19 : decode cX1_init 19 = .ok (.aload_n 0, 1) := by decide +kernel
theorem dX1_init_20 : decode cX1_init 20 = .ok (.iconst 0, 1) := by decide +kernel
theorem dX1_init_21 : decode cX1_init 21 = .ok (.putfield 20, 3) := by decide +kernel
theorem dX1_init_24 : decode cX1_init 24 = .ok (.aload_n 0, 1) := by decide +kernel
theorem dX1_init_25 : decode cX1_init 25 = .ok (.iconst 0, 1) := by decide +kernel
theorem dX1_init_26 : decode cX1_init 26 = .ok (.putfield 23, 3) := by decide +kernel
theorem dX1_init_29 : decode cX1_init 29 = .ok (.aload_n 0, 1) := by decide +kernel
theorem dX1_init_30 : decode cX1_init 30 = .ok (.iconst 0, 1) := by decide +kernel
theorem dX1_init_31 : decode cX1_init 31 = .ok (.putfield 26, 3) := by decide +kernel
theorem dX1_init_34 : decode cX1_init 34 = .ok (.aload_n 0, 1) := by decide +kernel
theorem dX1_init_35 : decode cX1_init 35 = .ok (.iconst 0, 1) := by decide +kernel
theorem dX1_init_36 : decode cX1_init 36 = .ok (.putfield 29, 3) := by decide +kernel
theorem dX1_init_39 : decode cX1_init 39 = .ok (.aload_n 0, 1) := by decide +kernel
theorem dX1_init_40 : decode cX1_init 40 = .ok (.iconst 0, 1) := by decide +kernel
theorem dX1_init_41 : decode cX1_init 41 = .ok (.putfield 32, 3) := by decide +kernel
theorem dX1_init_44 : decode cX1_init 44 = .ok (.aload_n 0, 1) := by decide +kernel
theorem dX1_init_45 : decode cX1_init 45 = .ok (.iconst 0, 1) := by decide +kernel
theorem dX1_init_46 : decode cX1_init 46 = .ok (.putfield 35, 3) := by decide +kernel
theorem dX1_init_49 : decode cX1_init 49 = .ok (.aload_n 0, 1) := by decide +kernel
theorem dX1_init_50 : decode cX1_init 50 = .ok (.iconst 0, 1) := by decide +kernel
theorem dX1_init_51 : decode cX1_init 51 = .ok (.putfield 38, 3) := by decide +kernel
theorem dX1_init_54 : decode cX1_init 54 = .ok (.return_, 1) := by decide +kernel
theorem dX1_layOut_0 : decode cX1_layOut 0 = .ok (.aload_n 1, 1) := by decide +kernel
theorem dX1_layOut_1 : decode cX1_layOut 1 = .ok (.getfield 41, 3) := by decide +kernel
theorem dX1_layOut_4 : decode cX1_layOut 4 = .ok (.aload_n 2, 1) := by decide +kernel
theorem dX1_layOut_5 : decode cX1_layOut 5 = .ok (.getfield 46, 3) := by decide +kernel
theorem dX1_layOut_8 : decode cX1_layOut 8 = .ok (.if_icmp .eq 5, 3) := by decide +kernel
theorem dX1_layOut_11 : decode cX1_layOut 11 = .ok (.iconst 0, 1) := by decide +kernel
theorem dX1_layOut_12 : decode cX1_layOut 12 = .ok (.ireturn, 1) := by decide +kernel
theorem dX1_layOut_13 : decode cX1_layOut 13 = .ok (.aload_n 1, 1) := by decide +kernel
theorem dX1_layOut_14 : decode cX1_layOut 14 = .ok (.getfield 49, 3) := by decide +kernel
theorem dX1_layOut_17 : decode cX1_layOut 17 = .ok (.aload_n 2, 1) := by decide +kernel
theorem dX1_layOut_18 : decode cX1_layOut 18 = .ok (.getfield 52, 3) := by decide +kernel
theorem dX1_layOut_21 : decode cX1_layOut 21 = .ok (.if_icmp .gt 18, 3) := by decide +kernel
theorem dX1_layOut_24 : decode cX1_layOut 24 = .ok (.aload_n 1, 1) := by decide +kernel
theorem dX1_layOut_25 : decode cX1_layOut 25 = .ok (.getfield 53, 3) := by decide +kernel
theorem dX1_layOut_28 : decode cX1_layOut 28 = .ok (.aload_n 2, 1) := by decide +kernel
theorem dX1_layOut_29 : decode cX1_layOut 29 = .ok (.getfield 56, 3) := by decide +kernel
theorem dX1_layOut_32 : decode cX1_layOut 32 = .ok (.if_icmp .gt 7, 3) := by decide +kernel
theorem dX1_layOut_35 : decode cX1_layOut 35 = .ok (.iconst 1, 1) := by decide +kernel
theorem dX1_layOut_36 : decode cX1_layOut 36 = .ok (.goto 4, 3) := by decide +kernel
theorem dX1_layOut_39 : decode cX1_layOut 39 = .ok (.iconst 0, 1) := by decide +kernel
theorem dX1_layOut_40 : decode cX1_layOut 40 = .ok (.istore 4, 2) := by decide +kernel
theorem dX1_layOut_42 : decode cX1_layOut 42 = .ok (.iload 4, 2) := by decide +kernel
theorem dX1_layOut_44 : decode cX1_layOut 44 = .ok (.ifCond .ne 34, 3) := by decide +kernel
theorem dX1_layOut_47 : decode cX1_layOut 47 = .ok (.aload_n 3, 1) := by decide +kernel
theorem dX1_layOut_48 : decode cX1_layOut 48 = .ok (.getfield 57, 3) := by decide +kernel
theorem dX1_layOut_51 : decode cX1_layOut 51 = .ok (.ifCond .eq 25, 3) := by decide +kernel
theorem dX1_layOut_54 : decode cX1_layOut 54 = .ok (.aload_n 1, 1) := by decide +kernel
theorem dX1_layOut_55 : decode cX1_layOut 55 = .ok (.getfield 53, 3) := by decide +kernel
theorem dX1_layOut_58 : decode cX1_layOut 58 = .ok (.aload_n 2, 1) := by decide +kernel
theorem dX1_layOut_59 : decode cX1_layOut 59 = .ok (.getfield 52, 3) := by decide +kernel
theorem dX1_layOut_62 : decode cX1_layOut 62 = .ok (.if_icmp .gt 14, 3) := by decide +kernel
theorem dX1_layOut_65 : decode cX1_layOut 65 = .ok (.aload_n 1, 1) := by decide +kernel
theorem dX1_layOut_66 : decode cX1_layOut 66 = .ok (.getfield 49, 3) := by decide +kernel
theorem dX1_layOut_69 : decode cX1_layOut 69 = .ok (.aload_n 2, 1) := by decide +kernel
theorem dX1_layOut_70 : decode cX1_layOut 70 = .ok (.getfield 56, 3) := by decide +kernel
theorem dX1_layOut_73 : decode cX1_layOut 73 = .ok (.if_icmp .le 5, 3) := by decide +kernel
theorem dX1_layOut_76 : decode cX1_layOut 76 = .ok (.iconst 0, 1) := by decide +kernel
theorem dX1_layOut_77 : decode cX1_layOut 77 = .ok (.ireturn, 1) := by decide +kernel
theorem dX1_layOut_78 : decode cX1_layOut 78 = .ok (.aload_n 0, 1) := by decide +kernel
theorem dX1_layOut_79 : decode cX1_layOut 79 = .ok (.iload 4, 2) := by decide +kernel
theorem dX1_layOut_81 : decode cX1_layOut 81 = .ok (.ifCond .ne 7, 3) := by decide +kernel
theorem dX1_layOut_84 : decode cX1_layOut 84 = .ok (.iconst 1, 1) := by decide +kernel
theorem dX1_layOut_85 : decode cX1_layOut 85 = .ok (.goto 4, 3) := by decide +kernel
theorem dX1_layOut_88 : decode cX1_layOut 88 = .ok (.iconst 0, 1) := by decide +kernel
theorem dX1_layOut_89 : decode cX1_layOut 89 = .ok (.putfield 7, 3) := by decide +kernel
theorem dX1_layOut_92 : decode cX1_layOut 92 = .ok (.aload_n 0, 1) := by decide +kernel
theorem dX1_layOut_93 : decode cX1_layOut 93 = .ok (.iload 4, 2) := by decide +kernel
theorem dX1_layOut_95 : decode cX1_layOut 95 = .ok (.ifCond .eq 10, 3) := by decide +kernel
theorem dX1_layOut_98 : decode cX1_layOut 98 = .ok (.aload_n 1, 1) := by decide +kernel
theorem dX1_layOut_99 : decode cX1_layOut 99 = .ok (.getfield 49, 3) := by decide +kernel
theorem dX1_layOut_102 : decode cX1_layOut 102 = .ok (.goto 7, 3) := by decide +kernel
theorem dX1_layOut_105 : decode cX1_layOut 105 = .ok (.aload_n 1, 1) := by decide +kernel
theorem dX1_layOut_106 : decode cX1_layOut 106 = .ok (.getfield 53, 3) := by decide +kernel
theorem dX1_layOut_109 : decode cX1_layOut 109 = .ok (.iload 4, 2) := by decide +kernel
theorem dX1_layOut_111 : decode cX1_layOut 111 = .ok (.ifCond .eq 10, 3) := by decide +kernel
theorem dX1_layOut_114 : decode cX1_layOut 114 = .ok (.aload_n 1, 1) := by decide +kernel
theorem dX1_layOut_115 : decode cX1_layOut 115 = .ok (.getfield 53, 3) := by decide +kernel
theorem dX1_layOut_118 : decode cX1_layOut 118 = .ok (.goto 7, 3) := by decide +kernel
theorem dX1_layOut_121 : decode cX1_layOut 121 = .ok (.aload_n 1, 1) := by decide +kernel
theorem dX1_layOut_122 : decode cX1_layOut 122 = .ok (.getfield 49, 3) := by decide +kernel
theorem dX1_layOut_125 : decode cX1_layOut 125 = .ok (.aload_n 2, 1) := by decide +kernel
theorem dX1_layOut_126 : decode cX1_layOut 126 = .ok (.aload_n 3, 1) := by decide +kernel
theorem dX1_layOut_127 : decode cX1_layOut 127 = .ok (.invokevirtual 62, 3) := by decide +kernel
theorem dX1_layOut_130 : decode cX1_layOut 130 = .ok (.aload_n 0, 1) := by decide +kernel
theorem dX1_layOut_131 : decode cX1_layOut 131 = .ok (.aload_n 2, 1) := by decide +kernel
theorem dX1_layOut_132 : decode cX1_layOut 132 = .ok (.invokevirtual 66, 3) := by decide +kernel
theorem dX1_layOut_135 : decode cX1_layOut 135 = .ok (.aload_n 1, 1) := by decide +kernel
theorem dX1_layOut_136 : decode cX1_layOut 136 = .ok (.invokevirtual 70, 3) := by decide +kernel
theorem dX1_layOut_139 : decode cX1_layOut 139 = .ok (.isub, 1) := by decide +kernel
theorem dX1_layOut_140 : decode cX1_layOut 140 = .ok (.aload_n 3, 1) := by decide +kernel
theorem dX1_layOut_141 : decode cX1_layOut 141 = .ok (.getfield 71, 3) := by decide +kernel
theorem dX1_layOut_144 : decode cX1_layOut 144 = .ok (.invokevirtual 74, 3) := by decide +kernel
theorem dX1_layOut_147 : decode cX1_layOut 147 = .ok (.iconst 1, 1) := by decide +kernel
theorem dX1_layOut_148 : decode cX1_layOut 148 = .ok (.ireturn, 1) := by decide +kernel
theorem dX1_splitSheet_0 : decode cX1_splitSheet 0 = .ok (.aload 4, 2) := by decide +kernel
theorem dX1_splitSheet_2 : decode cX1_splitSheet 2 = .ok (.getfield 78, 3) := by decide +kernel
theorem dX1_splitSheet_5 : decode cX1_splitSheet 5 = .ok (.ifCond .ne 7, 3) := by decide +kernel
theorem dX1_splitSheet_8 : decode cX1_splitSheet 8 = .ok (.iconst 1, 1) := by decide +kernel
theorem dX1_splitSheet_9 : decode cX1_splitSheet 9 = .ok (.goto 4, 3) := by decide +kernel
theorem dX1_splitSheet_12 : decode cX1_splitSheet 12 = .ok (.iconst 0, 1) := by decide +kernel
theorem dX1_splitSheet_13 : decode cX1_splitSheet 13 = .ok (.istore 5, 2) := by decide +kernel
theorem dX1_splitSheet_15 : decode cX1_splitSheet 15 = .ok (.aload_n 0, 1) := by decide +kernel
theorem dX1_splitSheet_16 : decode cX1_splitSheet 16 = .ok (.aload_n 3, 1) := by decide +kernel
theorem dX1_splitSheet_17 : decode cX1_splitSheet 17 = .ok (.getfield 52, 3) := by decide +kernel
theorem dX1_splitSheet_20 : decode cX1_splitSheet 20 = .ok (.iload_n 1, 1) := by decide +kernel
theorem dX1_splitSheet_21 : decode cX1_splitSheet 21 = .ok (.isub, 1) := by decide +kernel
theorem dX1_splitSheet_22 : decode cX1_splitSheet 22 = .ok (.aload 4, 2) := by decide +kernel
theorem dX1_splitSheet_24 : decode cX1_splitSheet 24 = .ok (.getfield 81, 3) := by decide +kernel
theorem dX1_splitSheet_27 : decode cX1_splitSheet 27 = .ok (.isub, 1) := by decide +kernel
theorem dX1_splitSheet_28 : decode cX1_splitSheet 28 = .ok (.putfield 13, 3) := by decide +kernel
theorem dX1_splitSheet_31 : decode cX1_splitSheet 31 = .ok (.aload_n 0, 1) := by decide +kernel
theorem dX1_splitSheet_32 : decode cX1_splitSheet 32 = .ok (.iload 5, 2) := by decide +kernel
theorem dX1_splitSheet_34 : decode cX1_splitSheet 34 = .ok (.ifCond .eq 7, 3) := by decide +kernel
theorem dX1_splitSheet_37 : decode cX1_splitSheet 37 = .ok (.iload_n 2, 1) := by decide +kernel
theorem dX1_splitSheet_38 : decode cX1_splitSheet 38 = .ok (.goto 7, 3) := by decide +kernel
theorem dX1_splitSheet_41 : decode cX1_splitSheet 41 = .ok (.aload_n 3, 1) := by decide +kernel
theorem dX1_splitSheet_42 : decode cX1_splitSheet 42 = .ok (.getfield 56, 3) := by decide +kernel
theorem dX1_splitSheet_45 : decode cX1_splitSheet 45 = .ok (.putfield 17, 3) := by decide +kernel
theorem dX1_splitSheet_48 : decode cX1_splitSheet 48 = .ok (.aload_n 0, 1) := by decide +kernel
theorem dX1_splitSheet_49 : decode cX1_splitSheet 49 = .ok (.iload 5, 2) := by decide +kernel
theorem dX1_splitSheet_51 : decode cX1_splitSheet 51 = .ok (.ifCond .eq 10, 3) := by decide +kernel
theorem dX1_splitSheet_54 : decode cX1_splitSheet 54 = .ok (.aload_n 3, 1) := by decide +kernel
theorem dX1_splitSheet_55 : decode cX1_splitSheet 55 = .ok (.getfield 52, 3) := by decide +kernel
theorem dX1_splitSheet_58 : decode cX1_splitSheet 58 = .ok (.goto 4, 3) := by decide +kernel
theorem dX1_splitSheet_61 : decode cX1_splitSheet 61 = .ok (.iload_n 1, 1) := by decide +kernel
theorem dX1_splitSheet_62 : decode cX1_splitSheet 62 = .ok (.putfield 23, 3) := by decide +kernel
theorem dX1_splitSheet_65 : decode cX1_splitSheet 65 = .ok (.aload_n 0, 1) := by decide +kernel
theorem dX1_splitSheet_66 : decode cX1_splitSheet 66 = .ok (.aload_n 3, 1) := by decide +kernel
theorem dX1_splitSheet_67 : decode cX1_splitSheet 67 = .ok (.getfield 56, 3) := by decide +kernel
theorem dX1_splitSheet_70 : decode cX1_splitSheet 70 = .ok (.iload_n 2, 1) := by decide +kernel
theorem dX1_splitSheet_71 : decode cX1_splitSheet 71 = .ok (.isub, 1) := by decide +kernel
theorem dX1_splitSheet_72 : decode cX1_splitSheet 72 = .ok (.aload 4, 2) := by decide +kernel
theorem dX1_splitSheet_74 : decode cX1_splitSheet 74 = .ok (.getfield 81, 3) := by decide +kernel
theorem dX1_splitSheet_77 : decode cX1_splitSheet 77 = .ok (.isub, 1) := by decide +kernel
theorem dX1_splitSheet_78 : decode cX1_splitSheet 78 = .ok (.putfield 26, 3) := by decide +kernel
theorem dX1_splitSheet_81 : decode cX1_splitSheet 81 = .ok (.return_, 1) := by decide +kernel
theorem dX1_sumUp_0 : decode cX1_sumUp 0 = .ok (.aload_n 0, 1) := by decide +kernel
theorem dX1_sumUp_1 : decode cX1_sumUp 1 = .ok (.aload_n 0, 1) := by decide +kernel
theorem dX1_sumUp_2 : decode cX1_sumUp 2 = .ok (.getfield 13, 3) := by decide +kernel
theorem dX1_sumUp_5 : decode cX1_sumUp 5 = .ok (.iconst 0, 1) := by decide +kernel
theorem dX1_sumUp_6 : decode cX1_sumUp 6 = .ok (.invokestatic 84, 3) := by decide +kernel
theorem dX1_sumUp_9 : decode cX1_sumUp 9 = .ok (.aload_n 0, 1) := by decide +kernel
theorem dX1_sumUp_10 : decode cX1_sumUp 10 = .ok (.getfield 17, 3) := by decide +kernel
theorem dX1_sumUp_13 : decode cX1_sumUp 13 = .ok (.imul, 1) := by decide +kernel
theorem dX1_sumUp_14 : decode cX1_sumUp 14 = .ok (.putfield 20, 3) := by decide +kernel
theorem dX1_sumUp_17 : decode cX1_sumUp 17 = .ok (.aload_n 0, 1) := by decide +kernel
theorem dX1_sumUp_18 : decode cX1_sumUp 18 = .ok (.aload_n 0, 1) := by decide +kernel
theorem dX1_sumUp_19 : decode cX1_sumUp 19 = .ok (.getfield 23, 3) := by decide +kernel
theorem dX1_sumUp_22 : decode cX1_sumUp 22 = .ok (.aload_n 0, 1) := by decide +kernel
theorem dX1_sumUp_23 : decode cX1_sumUp 23 = .ok (.getfield 26, 3) := by decide +kernel
theorem dX1_sumUp_26 : decode cX1_sumUp 26 = .ok (.iconst 0, 1) := by decide +kernel
theorem dX1_sumUp_27 : decode cX1_sumUp 27 = .ok (.invokestatic 84, 3) := by decide +kernel
theorem dX1_sumUp_30 : decode cX1_sumUp 30 = .ok (.imul, 1) := by decide +kernel
theorem dX1_sumUp_31 : decode cX1_sumUp 31 = .ok (.putfield 29, 3) := by decide +kernel
theorem dX1_sumUp_34 : decode cX1_sumUp 34 = .ok (.aload_n 0, 1) := by decide +kernel
theorem dX1_sumUp_35 : decode cX1_sumUp 35 = .ok (.iconst 0, 1) := by decide +kernel
theorem dX1_sumUp_36 : decode cX1_sumUp 36 = .ok (.putfield 32, 3) := by decide +kernel
theorem dX1_sumUp_39 : decode cX1_sumUp 39 = .ok (.aload_n 0, 1) := by decide +kernel
theorem dX1_sumUp_40 : decode cX1_sumUp 40 = .ok (.getfield 13, 3) := by decide +kernel
theorem dX1_sumUp_43 : decode cX1_sumUp 43 = .ok (.iload_n 2, 1) := by decide +kernel
theorem dX1_sumUp_44 : decode cX1_sumUp 44 = .ok (.if_icmp .lt 24, 3) := by decide +kernel
theorem dX1_sumUp_47 : decode cX1_sumUp 47 = .ok (.aload_n 0, 1) := by decide +kernel
theorem dX1_sumUp_48 : decode cX1_sumUp 48 = .ok (.getfield 17, 3) := by decide +kernel
theorem dX1_sumUp_51 : decode cX1_sumUp 51 = .ok (.iload_n 2, 1) := by decide +kernel
theorem dX1_sumUp_52 : decode cX1_sumUp 52 = .ok (.if_icmp .lt 16, 3) := by decide +kernel
theorem dX1_sumUp_55 : decode cX1_sumUp 55 = .ok (.aload_n 0, 1) := by decide +kernel
theorem dX1_sumUp_56 : decode cX1_sumUp 56 = .ok (.dup, 1) := by decide +kernel
theorem dX1_sumUp_57 : decode cX1_sumUp 57 = .ok (.getfield 32, 3) := by decide +kernel
theorem dX1_sumUp_60 : decode cX1_sumUp 60 = .ok (.aload_n 0, 1) := by decide +kernel
theorem dX1_sumUp_61 : decode cX1_sumUp 61 = .ok (.getfield 20, 3) := by decide +kernel
theorem dX1_sumUp_64 : decode cX1_sumUp 64 = .ok (.iadd, 1) := by decide +kernel
theorem dX1_sumUp_65 : decode cX1_sumUp 65 = .ok (.putfield 32, 3) := by decide +kernel
theorem dX1_sumUp_68 : decode cX1_sumUp 68 = .ok (.aload_n 0, 1) := by decide +kernel
theorem dX1_sumUp_69 : decode cX1_sumUp 69 = .ok (.getfield 23, 3) := by decide +kernel
theorem dX1_sumUp_72 : decode cX1_sumUp 72 = .ok (.iload_n 2, 1) := by decide +kernel
theorem dX1_sumUp_73 : decode cX1_sumUp 73 = .ok (.if_icmp .lt 24, 3) := by decide +kernel
theorem dX1_sumUp_76 : decode cX1_sumUp 76 = .ok (.aload_n 0, 1) := by decide +kernel
theorem dX1_sumUp_77 : decode cX1_sumUp 77 = .ok (.getfield 26, 3) := by decide +kernel
theorem dX1_sumUp_80 : decode cX1_sumUp 80 = .ok (.iload_n 2, 1) := by decide +kernel
theorem dX1_sumUp_81 : decode cX1_sumUp 81 = .ok (.if_icmp .lt 16, 3) := by decide +kernel
theorem dX1_sumUp_84 : decode cX1_sumUp 84 = .ok (.aload_n 0, 1) := by decide +kernel
theorem dX1_sumUp_85 : decode cX1_sumUp 85 = .ok (.dup, 1) := by decide +kernel
theorem dX1_sumUp_86 : decode cX1_sumUp 86 = .ok (.getfield 32, 3) := by decide +kernel
theorem dX1_sumUp_89 : decode cX1_sumUp 89 = .ok (.aload_n 0, 1) := by decide +kernel
theorem dX1_sumUp_90 : decode cX1_sumUp 90 = .ok (.getfield 29, 3) := by decide +kernel
theorem dX1_sumUp_93 : decode cX1_sumUp 93 = .ok (.iadd, 1) := by decide +kernel
theorem dX1_sumUp_94 : decode cX1_sumUp 94 = .ok (.putfield 32, 3) := by decide +kernel
theorem dX1_sumUp_97 : decode cX1_sumUp 97 = .ok (.aload_n 0, 1) := by decide +kernel
theorem dX1_sumUp_98 : decode cX1_sumUp 98 = .ok (.aload_n 0, 1) := by decide +kernel
theorem dX1_sumUp_99 : decode cX1_sumUp 99 = .ok (.getfield 20, 3) := by decide +kernel
theorem dX1_sumUp_102 : decode cX1_sumUp 102 = .ok (.aload_n 0, 1) := by decide +kernel
theorem dX1_sumUp_103 : decode cX1_sumUp 103 = .ok (.getfield 29, 3) := by decide +kernel
theorem dX1_sumUp_106 : decode cX1_sumUp 106 = .ok (.iadd, 1) := by decide +kernel
theorem dX1_sumUp_107 : decode cX1_sumUp 107 = .ok (.aload_n 0, 1) := by decide +kernel
theorem dX1_sumUp_108 : decode cX1_sumUp 108 = .ok (.getfield 32, 3) := by decide +kernel
theorem dX1_sumUp_111 : decode cX1_sumUp 111 = .ok (.isub, 1) := by decide +kernel
theorem dX1_sumUp_112 : decode cX1_sumUp 112 = .ok (.putfield 35, 3) := by decide +kernel
theorem dX1_sumUp_115 : decode cX1_sumUp 115 = .ok (.aload_n 0, 1) := by decide +kernel
theorem dX1_sumUp_116 : decode cX1_sumUp 116 = .ok (.iload_n 1, 1) := by decide +kernel
theorem dX1_sumUp_117 : decode cX1_sumUp 117 = .ok (.aload_n 0, 1) := by decide +kernel
theorem dX1_sumUp_118 : decode cX1_sumUp 118 = .ok (.getfield 20, 3) := by decide +kernel
theorem dX1_sumUp_121 : decode cX1_sumUp 121 = .ok (.isub, 1) := by decide +kernel
theorem dX1_sumUp_122 : decode cX1_sumUp 122 = .ok (.aload_n 0, 1) := by decide +kernel
theorem dX1_sumUp_123 : decode cX1_sumUp 123 = .ok (.getfield 29, 3) := by decide +kernel
theorem dX1_sumUp_126 : decode cX1_sumUp 126 = .ok (.isub, 1) := by decide +kernel
theorem dX1_sumUp_127 : decode cX1_sumUp 127 = .ok (.putfield 38, 3) := by decide +kernel
theorem dX1_sumUp_130 : decode cX1_sumUp 130 = .ok (.return_, 1) := by decide +kernel
theorem dX2_init_0 : decode cX2_init 0 = .ok (.aload_n 0, 1) := by decide +kernel
theorem dX2_init_1 : decode cX2_init 1 = .ok (.invokespecial 3, 3) := by decide +kernel
theorem dX2_init_4 : decode cX2_init 4 = .ok (.aload_n 0, 1) := by decide +kernel
theorem dX2_init_5 : decode cX2_init 5 = .ok (.iconst 4, 1) := by decide +kernel
theorem dX2_init_6 : decode cX2_init 6 = .ok (.anewarray 9, 3) := by decide +kernel
theorem dX2_init_9 : decode cX2_init 9 = .ok (.putfield 11, 3) := by decide +kernel
theorem dX2_init_12 : decode cX2_init 12 = .ok (.aload_n 0, 1) := by decide +kernel
theorem dX2_init_13 : decode cX2_init 13 = .ok (.iconst 0, 1) := by decide +kernel
theorem dX2_init_14 : decode cX2_init 14 = .ok (.putfield 17, 3) := by decide +kernel
theorem dX2_init_17 : decode cX2_init 17 = .ok (.iconst 0, 1) := by decide +kernel
theorem dX2_init_18 : decode cX2_init 18 = .ok (.istore_n 1, 1) := by decide +kernel
theorem dX2_init_19 : decode cX2_init 19 = .ok (.iload_n 1, 1) := by decide +kernel
theorem dX2_init_20 : decode cX2_init 20 = .ok (.aload_n 0, 1) := by decide +kernel
theorem dX2_init_21 : decode cX2_init 21 = .ok (.getfield 11, 3) := by decide +kernel
theorem dX2_init_24 : decode cX2_init 24 = .ok (.arraylength, 1) := by decide +kernel
theorem dX2_init_25 : decode cX2_init 25 = .ok (.if_icmp .ge 22, 3) := by decide +kernel
theorem dX2_init_28 : decode cX2_init 28 = .ok (.aload_n 0, 1) := by decide +kernel
theorem dX2_init_29 : decode cX2_init 29 = .ok (.getfield 11, 3) := by decide +kernel
theorem dX2_init_32 : decode cX2_init 32 = .ok (.iload_n 1, 1) := by decide +kernel
theorem dX2_init_33 : decode cX2_init 33 = .ok (.new 9, 3) := by decide +kernel
theorem dX2_init_36 : decode cX2_init 36 = .ok (.dup, 1) := by decide +kernel
theorem dX2_init_37 : decode cX2_init 37 = .ok (.invokespecial 21, 3) := by decide +kernel
theorem dX2_init_40 : decode cX2_init 40 = .ok (.aastore, 1) := by decide +kernel
theorem dX2_init_41 : decode cX2_init 41 = .ok (.iinc 1 1, 3) := by decide +kernel
theorem dX2_init_44 : decode cX2_init 44 = .ok (.goto (-25), 3) := by decide +kernel
theorem dX2_init_47 : decode cX2_init 47 = .ok (.return_, 1) := by decide +kernel
theorem dX2_record_0 : decode cX2_record 0 = .ok (.aload_n 0, 1) := by decide +kernel
theorem dX2_record_1 : decode cX2_record 1 = .ok (.getfield 17, 3) := by decide +kernel
theorem dX2_record_4 : decode cX2_record 4 = .ok (.aload_n 0, 1) := by decide +kernel
theorem dX2_record_5 : decode cX2_record 5 = .ok (.getfield 11, 3) := by decide +kernel
theorem dX2_record_8 : decode cX2_record 8 = .ok (.arraylength, 1) := by decide +kernel
theorem dX2_record_9 : decode cX2_record 9 = .ok (.if_icmp .lt 7, 3) := by decide +kernel
theorem dX2_record_12 : decode cX2_record 12 = .ok (.aload_n 0, 1) := by decide +kernel
theorem dX2_record_13 : decode cX2_record 13 = .ok (.invokevirtual 22, 3) := by decide +kernel
theorem dX2_record_16 : decode cX2_record 16 = .ok (.aload_n 0, 1) := by decide +kernel
theorem dX2_record_17 : decode cX2_record 17 = .ok (.aload_n 0, 1) := by decide +kernel
theorem dX2_record_18 : decode cX2_record 18 = .ok (.getfield 17, 3) := by decide +kernel
theorem dX2_record_21 : decode cX2_record 21 = .ok (.invokevirtual 25, 3) := by decide +kernel
theorem dX2_record_24 : decode cX2_record 24 = .ok (.astore_n 2, 1) := by decide +kernel
theorem dX2_record_25 : decode cX2_record 25 = .ok (.aload_n 2, 1) := by decide +kernel
theorem dX2_record_26 : decode cX2_record 26 = .ok (.ifnull 18, 3) := by decide +kernel
theorem dX2_record_29 : decode cX2_record 29 = .ok (.aload_n 2, 1) := by decide +kernel
theorem dX2_record_30 : decode cX2_record 30 = .ok (.aload_n 1, 1) := by decide +kernel
theorem dX2_record_31 : decode cX2_record 31 = .ok (.invokevirtual 29, 3) := by decide +kernel
theorem dX2_record_34 : decode cX2_record 34 = .ok (.aload_n 0, 1) := by decide +kernel
theorem dX2_record_35 : decode cX2_record 35 = .ok (.dup, 1) := by decide +kernel
theorem dX2_record_36 : decode cX2_record 36 = .ok (.getfield 17, 3) := by decide +kernel
theorem dX2_record_39 : decode cX2_record 39 = .ok (.iconst 1, 1) := by decide +kernel
theorem dX2_record_40 : decode cX2_record 40 = .ok (.iadd, 1) := by decide +kernel
theorem dX2_record_41 : decode cX2_record 41 = .ok (.putfield 17, 3) := by decide +kernel
theorem dX2_record_44 : decode cX2_record 44 = .ok (.return_, 1) := by decide +kernel
theorem dX2_takeBack_0 : decode cX2_takeBack 0 = .ok (.aload_n 0, 1) := by decide +kernel
theorem dX2_takeBack_1 : decode cX2_takeBack 1 = .ok (.aload_n 0, 1) := by decide +kernel
theorem dX2_takeBack_2 : decode cX2_takeBack 2 = .ok (.getfield 17, 3) := by decide +kernel
theorem dX2_takeBack_5 : decode cX2_takeBack 5 = .ok (.iconst 1, 1) := by decide +kernel
theorem dX2_takeBack_6 : decode cX2_takeBack 6 = .ok (.isub, 1) := by decide +kernel
theorem dX2_takeBack_7 : decode cX2_takeBack 7 = .ok (.invokevirtual 25, 3) := by decide +kernel
theorem dX2_takeBack_10 : decode cX2_takeBack 10 = .ok (.astore_n 2, 1) := by decide +kernel
theorem dX2_takeBack_11 : decode cX2_takeBack 11 = .ok (.aload_n 2, 1) := by decide +kernel
theorem dX2_takeBack_12 : decode cX2_takeBack 12 = .ok (.ifnonnull 6, 3) := by decide +kernel
theorem dX2_takeBack_15 : decode cX2_takeBack 15 = .ok (.bipush (-5), 2) := by decide +kernel
theorem dX2_takeBack_17 : decode cX2_takeBack 17 = .ok (.ireturn, 1) := by decide +kernel
theorem dX2_takeBack_18 : decode cX2_takeBack 18 = .ok (.aload_n 0, 1) := by decide +kernel
theorem dX2_takeBack_19 : decode cX2_takeBack 19 = .ok (.dup, 1) := by decide +kernel
theorem dX2_takeBack_20 : decode cX2_takeBack 20 = .ok (.getfield 17, 3) := by decide +kernel
theorem dX2_takeBack_23 : decode cX2_takeBack 23 = .ok (.iconst 1, 1) := by decide +kernel
theorem dX2_takeBack_24 : decode cX2_takeBack 24 = .ok (.isub, 1) := by decide +kernel
theorem dX2_takeBack_25 : decode cX2_takeBack 25 = .ok (.putfield 17, 3) := by decide +kernel
theorem dX2_takeBack_28 : decode cX2_takeBack 28 = .ok (.aload_n 1, 1) := by decide +kernel
theorem dX2_takeBack_29 : decode cX2_takeBack 29 = .ok (.aload_n 2, 1) := by decide +kernel
theorem dX2_takeBack_30 : decode cX2_takeBack 30 = .ok (.invokevirtual 29, 3) := by decide +kernel
theorem dX2_takeBack_33 : decode cX2_takeBack 33 = .ok (.aload_n 0, 1) := by decide +kernel
theorem dX2_takeBack_34 : decode cX2_takeBack 34 = .ok (.getfield 17, 3) := by decide +kernel
theorem dX2_takeBack_37 : decode cX2_takeBack 37 = .ok (.ireturn, 1) := by decide +kernel
theorem dX2_stateAt_0 : decode cX2_stateAt 0 = .ok (.iload_n 1, 1) := by decide +kernel
theorem dX2_stateAt_1 : decode cX2_stateAt 1 = .ok (.ifCond .lt 21, 3) := by decide +kernel
theorem dX2_stateAt_4 : decode cX2_stateAt 4 = .ok (.iload_n 1, 1) := by decide +kernel
theorem dX2_stateAt_5 : decode cX2_stateAt 5 = .ok (.aload_n 0, 1) := by decide +kernel
theorem dX2_stateAt_6 : decode cX2_stateAt 6 = .ok (.getfield 11, 3) := by decide +kernel
theorem dX2_stateAt_9 : decode cX2_stateAt 9 = .ok (.arraylength, 1) := by decide +kernel
theorem dX2_stateAt_10 : decode cX2_stateAt 10 = .ok (.if_icmp .ge 12, 3) := by decide +kernel
theorem dX2_stateAt_13 : decode cX2_stateAt 13 = .ok (.aload_n 0, 1) := by decide +kernel
theorem dX2_stateAt_14 : decode cX2_stateAt 14 = .ok (.getfield 11, 3) := by decide +kernel
theorem dX2_stateAt_17 : decode cX2_stateAt 17 = .ok (.iload_n 1, 1) := by decide +kernel
theorem dX2_stateAt_18 : decode cX2_stateAt 18 = .ok (.aaload, 1) := by decide +kernel
theorem dX2_stateAt_19 : decode cX2_stateAt 19 = .ok (.goto 4, 3) := by decide +kernel
theorem dX2_stateAt_22 : decode cX2_stateAt 22 = .ok (.aconst_null, 1) := by decide +kernel
theorem dX2_stateAt_23 : decode cX2_stateAt 23 = .ok (.areturn, 1) := by decide +kernel
theorem dX2_dropOldest_0 : decode cX2_dropOldest 0 = .ok (.aload_n 0, 1) := by decide +kernel
theorem dX2_dropOldest_1 : decode cX2_dropOldest 1 = .ok (.iconst 0, 1) := by decide +kernel
theorem dX2_dropOldest_2 : decode cX2_dropOldest 2 = .ok (.invokevirtual 25, 3) := by decide +kernel
theorem dX2_dropOldest_5 : decode cX2_dropOldest 5 = .ok (.astore_n 1, 1) := by decide +kernel
theorem dX2_dropOldest_6 : decode cX2_dropOldest 6 = .ok (.iconst 0, 1) := by decide +kernel
theorem dX2_dropOldest_7 : decode cX2_dropOldest 7 = .ok (.istore_n 2, 1) := by decide +kernel
theorem dX2_dropOldest_8 : decode cX2_dropOldest 8 = .ok (.iload_n 2, 1) := by decide +kernel
theorem dX2_dropOldest_9 : decode cX2_dropOldest 9 = .ok (.aload_n 0, 1) := by decide +kernel
theorem dX2_dropOldest_10 : decode cX2_dropOldest 10 = .ok (.getfield 11, 3) := by decide +kernel
theorem dX2_dropOldest_13 : decode cX2_dropOldest 13 = .ok (.arraylength, 1) := by decide +kernel
theorem dX2_dropOldest_14 : decode cX2_dropOldest 14 = .ok (.if_icmp .ge 38, 3) := by decide +kernel
theorem dX2_dropOldest_17 : decode cX2_dropOldest 17 = .ok (.aload_n 0, 1) := by decide +kernel
theorem dX2_dropOldest_18 : decode cX2_dropOldest 18 = .ok (.getfield 11, 3) := by decide +kernel
theorem dX2_dropOldest_21 : decode cX2_dropOldest 21 = .ok (.iload_n 2, 1) := by decide +kernel
theorem dX2_dropOldest_22 : decode cX2_dropOldest 22 = .ok (.iload_n 2, 1) := by decide +kernel
theorem dX2_dropOldest_23 : decode cX2_dropOldest 23 = .ok (.iconst 1, 1) := by decide +kernel
theorem dX2_dropOldest_24 : decode cX2_dropOldest 24 = .ok (.iadd, 1) := by decide +kernel
theorem dX2_dropOldest_25 : decode cX2_dropOldest 25 = .ok (.aload_n 0, 1) := by decide +kernel
theorem dX2_dropOldest_26 : decode cX2_dropOldest 26 = .ok (.getfield 11, 3) := by decide +kernel
theorem dX2_dropOldest_29 : decode cX2_dropOldest 29 = .ok (.arraylength, 1) := by decide +kernel
theorem dX2_dropOldest_30 : decode cX2_dropOldest 30 = .ok (.if_icmp .ge 14, 3) := by decide +kernel
theorem dX2_dropOldest_33 : decode cX2_dropOldest 33 = .ok (.aload_n 0, 1) := by decide +kernel
theorem dX2_dropOldest_34 : decode cX2_dropOldest 34 = .ok (.getfield 11, 3) := by decide +kernel
theorem dX2_dropOldest_37 : decode cX2_dropOldest 37 = .ok (.iload_n 2, 1) := by decide +kernel
theorem dX2_dropOldest_38 : decode cX2_dropOldest 38 = .ok (.iconst 1, 1) := by decide +kernel
theorem dX2_dropOldest_39 : decode cX2_dropOldest 39 = .ok (.iadd, 1) := by decide +kernel
theorem dX2_dropOldest_40 : decode cX2_dropOldest 40 = .ok (.aaload, 1) := by decide +kernel
theorem dX2_dropOldest_41 : decode cX2_dropOldest 41 = .ok (.goto 4, 3) := by decide +kernel
theorem dX2_dropOldest_44 : decode cX2_dropOldest 44 = .ok (.aload_n 1, 1) := by decide +kernel
theorem dX2_dropOldest_45 : decode cX2_dropOldest 45 = .ok (.aastore, 1) := by decide +kernel
theorem dX2_dropOldest_46 : decode cX2_dropOldest 46 = .ok (.iinc 2 1, 3) := by decide +kernel
theorem dX2_dropOldest_49 : decode cX2_dropOldest 49 = .ok (.goto (-41), 3) := by decide +kernel
theorem dX2_dropOldest_52 : decode cX2_dropOldest 52 = .ok (.aload_n 0, 1) := by decide +kernel
theorem dX2_dropOldest_53 : decode cX2_dropOldest 53 = .ok (.dup, 1) := by decide +kernel
theorem dX2_dropOldest_54 : decode cX2_dropOldest 54 = .ok (.getfield 17, 3) := by decide +kernel
theorem dX2_dropOldest_57 : decode cX2_dropOldest 57 = .ok (.iconst 1, 1) := by decide +kernel
theorem dX2_dropOldest_58 : decode cX2_dropOldest 58 = .ok (.isub, 1) := by decide +kernel
theorem dX2_dropOldest_59 : decode cX2_dropOldest 59 = .ok (.putfield 17, 3) := by decide +kernel
theorem dX2_dropOldest_62 : decode cX2_dropOldest 62 = .ok (.return_, 1) := by decide +kernel
theorem dX3_init_0 : decode cX3_init 0 = .ok (.aload_n 0, 1) := by decide +kernel
theorem dX3_init_1 : decode cX3_init 1 = .ok (.invokespecial 3, 3) := by decide +kernel
theorem dX3_init_4 : decode cX3_init 4 = .ok (.aload_n 0, 1) := by decide +kernel
theorem dX3_init_5 : decode cX3_init 5 = .ok (.iconst 0, 1) := by decide +kernel
theorem dX3_init_6 : decode cX3_init 6 = .ok (.putfield 9, 3) := by decide +kernel
theorem dX3_init_9 : decode cX3_init 9 = .ok (.aload_n 0, 1) := by decide +kernel
theorem dX3_init_10 : decode cX3_init 10 = .ok (.bipush (-5), 2) := by decide +kernel
theorem dX3_init_12 : decode cX3_init 12 = .ok (.putfield 15, 3) := by decide +kernel
theorem dX3_init_15 : decode cX3_init 15 = .ok (.aload_n 0, 1) := by decide +kernel
theorem dX3_init_16 : decode cX3_init 16 = .ok (.bipush (-5), 2) := by decide +kernel
theorem dX3_init_18 : decode cX3_init 18 = .ok (.putfield 18, 3) := by decide +kernel
theorem dX3_init_21 : decode cX3_init 21 = .ok (.aload_n 0, 1) := by decide +kernel
theorem dX3_init_22 : decode cX3_init 22 = .ok (.iload_n 1, 1) := by decide +kernel
theorem dX3_init_23 : decode cX3_init 23 = .ok (.putfield 21, 3) := by decide +kernel
theorem dX3_init_26 : decode cX3_init 26 = .ok (.aload_n 0, 1) := by decide +kernel
theorem dX3_init_27 : decode cX3_init 27 = .ok (.iload_n 2, 1) := by decide +kernel
theorem dX3_init_28 : decode cX3_init 28 = .ok (.putfield 24, 3) := by decide +kernel
theorem dX3_init_31 : decode cX3_init 31 = .ok (.aload_n 0, 1) := by decide +kernel
theorem dX3_init_32 : decode cX3_init 32 = .ok (.iload_n 3, 1) := by decide +kernel
theorem dX3_init_33 : decode cX3_init 33 = .ok (.putfield 27, 3) := by decide +kernel
theorem dX3_init_36 : decode cX3_init 36 = .ok (.aload_n 0, 1) := by decide +kernel
theorem dX3_init_37 : decode cX3_init 37 = .ok (.iload 4, 2) := by decide +kernel
theorem dX3_init_39 : decode cX3_init 39 = .ok (.putfield 30, 3) := by decide +kernel
theorem dX3_init_42 : decode cX3_init 42 = .ok (.aload_n 0, 1) := by decide +kernel
theorem dX3_init_43 : decode cX3_init 43 = .ok (.iload 5, 2) := by decide +kernel
theorem dX3_init_45 : decode cX3_init 45 = .ok (.putfield 33, 3) := by decide +kernel
theorem dX3_init_48 : decode cX3_init 48 = .ok (.return_, 1) := by decide +kernel
theorem dX3_asCut_0 : decode cX3_asCut 0 = .ok (.new 10, 3) := by decide +kernel
theorem dX3_asCut_3 : decode cX3_asCut 3 = .ok (.dup, 1) := by decide +kernel
theorem dX3_asCut_4 : decode cX3_asCut 4 = .ok (.aload_n 0, 1) := by decide +kernel
theorem dX3_asCut_5 : decode cX3_asCut 5 = .ok (.getfield 21, 3) := by decide +kernel
theorem dX3_asCut_8 : decode cX3_asCut 8 = .ok (.aload_n 0, 1) := by decide +kernel
theorem dX3_asCut_9 : decode cX3_asCut 9 = .ok (.getfield 24, 3) := by decide +kernel
theorem dX3_asCut_12 : decode cX3_asCut 12 = .ok (.aload_n 0, 1) := by decide +kernel
theorem dX3_asCut_13 : decode cX3_asCut 13 = .ok (.getfield 27, 3) := by decide +kernel
theorem dX3_asCut_16 : decode cX3_asCut 16 = .ok (.aload_n 0, 1) := by decide +kernel
theorem dX3_asCut_17 : decode cX3_asCut 17 = .ok (.getfield 30, 3) := by decide +kernel
theorem dX3_asCut_20 : decode cX3_asCut 20 = .ok (.aload_n 0, 1) := by decide +kernel
theorem dX3_asCut_21 : decode cX3_asCut 21 = .ok (.getfield 33, 3) := by decide +kernel
theorem dX3_asCut_24 : decode cX3_asCut 24 = .ok (.invokespecial 36, 3) := by decide +kernel
theorem dX3_asCut_27 : decode cX3_asCut 27 = .ok (.astore_n 3, 1) := by decide +kernel
theorem dX3_asCut_28 : decode cX3_asCut 28 = .ok (.aload_n 3, 1) := by decide +kernel
theorem dX3_asCut_29 : decode cX3_asCut 29 = .ok (.iconst 1, 1) := by decide +kernel
theorem dX3_asCut_30 : decode cX3_asCut 30 = .ok (.putfield 9, 3) := by decide +kernel
theorem dX3_asCut_33 : decode cX3_asCut 33 = .ok (.aload_n 3, 1) := by decide +kernel
theorem dX3_asCut_34 : decode cX3_asCut 34 = .ok (.iload_n 1, 1) := by decide +kernel
theorem dX3_asCut_35 : decode cX3_asCut 35 = .ok (.putfield 15, 3) := by decide +kernel
theorem dX3_asCut_38 : decode cX3_asCut 38 = .ok (.aload_n 3, 1) := by decide +kernel
theorem dX3_asCut_39 : decode cX3_asCut 39 = .ok (.iload_n 2, 1) := by decide +kernel
theorem dX3_asCut_40 : decode cX3_asCut 40 = .ok (.putfield 18, 3) := by decide +kernel
theorem dX3_asCut_43 : decode cX3_asCut 43 = .ok (.aload_n 3, 1) := by decide +kernel
theorem dX3_asCut_44 : decode cX3_asCut 44 = .ok (.areturn, 1) := by decide +kernel
theorem dX3_asCancelled_0 : decode cX3_asCancelled 0 = .ok (.new 10, 3) := by decide +kernel
theorem dX3_asCancelled_3 : decode cX3_asCancelled 3 = .ok (.dup, 1) := by decide +kernel
theorem dX3_asCancelled_4 : decode cX3_asCancelled 4 = .ok (.aload_n 0, 1) := by decide +kernel
theorem dX3_asCancelled_5 : decode cX3_asCancelled 5 = .ok (.getfield 21, 3) := by decide +kernel
theorem dX3_asCancelled_8 : decode cX3_asCancelled 8 = .ok (.aload_n 0, 1) := by decide +kernel
theorem dX3_asCancelled_9 : decode cX3_asCancelled 9 = .ok (.getfield 24, 3) := by decide +kernel
theorem dX3_asCancelled_12 : decode cX3_asCancelled 12 = .ok (.aload_n 0, 1) := by decide +kernel
theorem dX3_asCancelled_13 : decode cX3_asCancelled 13 = .ok (.getfield 27, 3) := by decide +kernel
theorem dX3_asCancelled_16 : decode cX3_asCancelled 16 = .ok (.aload_n 0, 1) := by decide +kernel
theorem dX3_asCancelled_17 : decode cX3_asCancelled 17 = .ok (.getfield 30, 3) := by decide +kernel
theorem dX3_asCancelled_20 : decode cX3_asCancelled 20 = .ok (.aload_n 0, 1) := by decide +kernel
theorem dX3_asCancelled_21 : decode cX3_asCancelled 21 = .ok (.getfield 33, 3) := by decide +kernel
theorem dX3_asCancelled_24 : decode cX3_asCancelled 24 = .ok (.invokespecial 36, 3) := by decide +kernel
theorem dX3_asCancelled_27 : decode cX3_asCancelled 27 = .ok (.astore_n 1, 1) := by decide +kernel
theorem dX3_asCancelled_28 : decode cX3_asCancelled 28 = .ok (.aload_n 1, 1) := by decide +kernel
theorem dX3_asCancelled_29 : decode cX3_asCancelled 29 = .ok (.iconst 2, 1) := by decide +kernel
theorem dX3_asCancelled_30 : decode cX3_asCancelled 30 = .ok (.putfield 9, 3) := by decide +kernel
theorem dX3_asCancelled_33 : decode cX3_asCancelled 33 = .ok (.aload_n 1, 1) := by decide +kernel
theorem dX3_asCancelled_34 : decode cX3_asCancelled 34 = .ok (.areturn, 1) := by decide +kernel
theorem dX3_area_0 : decode cX3_area 0 = .ok (.aload_n 0, 1) := by decide +kernel
theorem dX3_area_1 : decode cX3_area 1 = .ok (.getfield 27, 3) := by decide +kernel
theorem dX3_area_4 : decode cX3_area 4 = .ok (.aload_n 0, 1) := by decide +kernel
theorem dX3_area_5 : decode cX3_area 5 = .ok (.getfield 30, 3) := by decide +kernel
theorem dX3_area_8 : decode cX3_area 8 = .ok (.imul, 1) := by decide +kernel
theorem dX3_area_9 : decode cX3_area 9 = .ok (.ireturn, 1) := by decide +kernel
theorem dX3_isOpen_0 : decode cX3_isOpen 0 = .ok (.aload_n 0, 1) := by decide +kernel
theorem dX3_isOpen_1 : decode cX3_isOpen 1 = .ok (.getfield 9, 3) := by decide +kernel
theorem dX3_isOpen_4 : decode cX3_isOpen 4 = .ok (.ifCond .ne 7, 3) := by decide +kernel
theorem dX3_isOpen_7 : decode cX3_isOpen 7 = .ok (.iconst 1, 1) := by decide +kernel
theorem dX3_isOpen_8 : decode cX3_isOpen 8 = .ok (.goto 4, 3) := by decide +kernel
theorem dX3_isOpen_11 : decode cX3_isOpen 11 = .ok (.iconst 0, 1) := by decide +kernel
theorem dX3_isOpen_12 : decode cX3_isOpen 12 = .ok (.ireturn, 1) := by decide +kernel
theorem dX3_isLate_0 : decode cX3_isLate 0 = .ok (.aload_n 0, 1) := by decide +kernel
theorem dX3_isLate_1 : decode cX3_isLate 1 = .ok (.getfield 9, 3) := by decide +kernel
theorem dX3_isLate_4 : decode cX3_isLate 4 = .ok (.iconst 1, 1) := by decide +kernel
theorem dX3_isLate_5 : decode cX3_isLate 5 = .ok (.if_icmp .ne 14, 3) := by decide +kernel
theorem dX3_isLate_8 : decode cX3_isLate 8 = .ok (.aload_n 0, 1) := by decide +kernel
theorem dX3_isLate_9 : decode cX3_isLate 9 = .ok (.getfield 18, 3) := by decide +kernel
theorem dX3_isLate_12 : decode cX3_isLate 12 = .ok (.aload_n 0, 1) := by decide +kernel
theorem dX3_isLate_13 : decode cX3_isLate 13 = .ok (.getfield 33, 3) := by decide +kernel
theorem dX3_isLate_16 : decode cX3_isLate 16 = .ok (.if_icmp .gt 18, 3) := by decide +kernel
theorem dX3_isLate_19 : decode cX3_isLate 19 = .ok (.aload_n 0, 1) := by decide +kernel
theorem dX3_isLate_20 : decode cX3_isLate 20 = .ok (.getfield 9, 3) := by decide +kernel
theorem dX3_isLate_23 : decode cX3_isLate 23 = .ok (.ifCond .ne 15, 3) := by decide +kernel
theorem dX3_isLate_26 : decode cX3_isLate 26 = .ok (.iload_n 1, 1) := by decide +kernel
theorem dX3_isLate_27 : decode cX3_isLate 27 = .ok (.aload_n 0, 1) := by decide +kernel
theorem dX3_isLate_28 : decode cX3_isLate 28 = .ok (.getfield 33, 3) := by decide +kernel
theorem dX3_isLate_31 : decode cX3_isLate 31 = .ok (.if_icmp .le 7, 3) := by decide +kernel
theorem dX3_isLate_34 : decode cX3_isLate 34 = .ok (.iconst 1, 1) := by decide +kernel
theorem dX3_isLate_35 : decode cX3_isLate 35 = .ok (.goto 4, 3) := by decide +kernel
theorem dX3_isLate_38 : decode cX3_isLate 38 = .ok (.iconst 0, 1) := by decide +kernel
theorem dX3_isLate_39 : decode cX3_isLate 39 = .ok (.ireturn, 1) := by decide +kernel
theorem dX3_goesBefore_0 : decode cX3_goesBefore 0 = .ok (.aload_n 0, 1) := by decide +kernel
theorem dX3_goesBefore_1 : decode cX3_goesBefore 1 = .ok (.getfield 33, 3) := by decide +kernel
theorem dX3_goesBefore_4 : decode cX3_goesBefore 4 = .ok (.aload_n 1, 1) := by decide +kernel
theorem dX3_goesBefore_5 : decode cX3_goesBefore 5 = .ok (.getfield 33, 3) := by decide +kernel
theorem dX3_goesBefore_8 : decode cX3_goesBefore 8 = .ok (.if_icmp .eq 20, 3) := by decide +kernel
theorem dX3_goesBefore_11 : decode cX3_goesBefore 11 = .ok (.aload_n 0, 1) := by decide +kernel
theorem dX3_goesBefore_12 : decode cX3_goesBefore 12 = .ok (.getfield 33, 3) := by decide +kernel
theorem dX3_goesBefore_15 : decode cX3_goesBefore 15 = .ok (.aload_n 1, 1) := by decide +kernel
theorem dX3_goesBefore_16 : decode cX3_goesBefore 16 = .ok (.getfield 33, 3) := by decide +kernel
theorem dX3_goesBefore_19 : decode cX3_goesBefore 19 = .ok (.if_icmp .ge 7, 3) := by decide +kernel
theorem dX3_goesBefore_22 : decode cX3_goesBefore 22 = .ok (.iconst 1, 1) := by decide +kernel
theorem dX3_goesBefore_23 : decode cX3_goesBefore 23 = .ok (.goto 4, 3) := by decide +kernel
theorem dX3_goesBefore_26 : decode cX3_goesBefore 26 = .ok (.iconst 0, 1) := by decide +kernel
theorem dX3_goesBefore_27 : decode cX3_goesBefore 27 = .ok (.ireturn, 1) := by decide +kernel
theorem dX3_goesBefore_28 : decode cX3_goesBefore 28 = .ok (.aload_n 0, 1) := by decide +kernel
theorem dX3_goesBefore_29 : decode cX3_goesBefore 29 = .ok (.invokevirtual 39, 3) := by decide +kernel
theorem dX3_goesBefore_32 : decode cX3_goesBefore 32 = .ok (.aload_n 1, 1) := by decide +kernel
theorem dX3_goesBefore_33 : decode cX3_goesBefore 33 = .ok (.invokevirtual 39, 3) := by decide +kernel
theorem dX3_goesBefore_36 : decode cX3_goesBefore 36 = .ok (.if_icmp .eq 20, 3) := by decide +kernel
theorem dX3_goesBefore_39 : decode cX3_goesBefore 39 = .ok (.aload_n 0, 1) := by decide +kernel
theorem dX3_goesBefore_40 : decode cX3_goesBefore 40 = .ok (.invokevirtual 39, 3) := by decide +kernel
theorem dX3_goesBefore_43 : decode cX3_goesBefore 43 = .ok (.aload_n 1, 1) := by decide +kernel
theorem dX3_goesBefore_44 : decode cX3_goesBefore 44 = .ok (.invokevirtual 39, 3) := by decide +kernel
theorem dX3_goesBefore_47 : decode cX3_goesBefore 47 = .ok (.if_icmp .le 7, 3) := by decide +kernel
theorem dX3_goesBefore_50 : decode cX3_goesBefore 50 = .ok (.iconst 1, 1) := by decide +kernel
theorem dX3_goesBefore_51 : decode cX3_goesBefore 51 = .ok (.goto 4, 3) := by decide +kernel
theorem dX3_goesBefore_54 : decode cX3_goesBefore 54 = .ok (.iconst 0, 1) := by decide +kernel
theorem dX3_goesBefore_55 : decode cX3_goesBefore 55 = .ok (.ireturn, 1) := by decide +kernel
theorem dX3_goesBefore_56 : decode cX3_goesBefore 56 = .ok (.aload_n 0, 1) := by decide +kernel
theorem dX3_goesBefore_57 : decode cX3_goesBefore 57 = .ok (.getfield 21, 3) := by decide +kernel
theorem dX3_goesBefore_60 : decode cX3_goesBefore 60 = .ok (.aload_n 1, 1) := by decide +kernel
theorem dX3_goesBefore_61 : decode cX3_goesBefore 61 = .ok (.getfield 21, 3) := by decide +kernel
theorem dX3_goesBefore_64 : decode cX3_goesBefore 64 = .ok (.if_icmp .ge 7, 3) := by decide +kernel
theorem dX3_goesBefore_67 : decode cX3_goesBefore 67 = .ok (.iconst 1, 1) := by decide +kernel
theorem dX3_goesBefore_68 : decode cX3_goesBefore 68 = .ok (.goto 4, 3) := by decide +kernel
theorem dX3_goesBefore_71 : decode cX3_goesBefore 71 = .ok (.iconst 0, 1) := by decide +kernel
theorem dX3_goesBefore_72 : decode cX3_goesBefore 72 = .ok (.ireturn, 1) := by decide +kernel
theorem dX4_init_0 : decode cX4_init 0 = .ok (.aload_n 0, 1) := by decide +kernel
theorem dX4_init_1 : decode cX4_init 1 = .ok (.invokespecial 3, 3) := by decide +kernel
theorem dX4_init_4 : decode cX4_init 4 = .ok (.aload_n 0, 1) := by decide +kernel
theorem dX4_init_5 : decode cX4_init 5 = .ok (.bipush 12, 2) := by decide +kernel
theorem dX4_init_7 : decode cX4_init 7 = .ok (.anewarray 9, 3) := by decide +kernel
theorem dX4_init_10 : decode cX4_init 10 = .ok (.putfield 11, 3) := by decide +kernel
theorem dX4_init_13 : decode cX4_init 13 = .ok (.aload_n 0, 1) := by decide +kernel
theorem dX4_init_14 : decode cX4_init 14 = .ok (.iconst 0, 1) := by decide +kernel
theorem dX4_init_15 : decode cX4_init 15 = .ok (.putfield 17, 3) := by decide +kernel
theorem dX4_init_18 : decode cX4_init 18 = .ok (.return_, 1) := by decide +kernel
theorem dX4_copyFrom_0 : decode cX4_copyFrom 0 = .ok (.aload_n 0, 1) := by decide +kernel
theorem dX4_copyFrom_1 : decode cX4_copyFrom 1 = .ok (.aload_n 1, 1) := by decide +kernel
theorem dX4_copyFrom_2 : decode cX4_copyFrom 2 = .ok (.getfield 17, 3) := by decide +kernel
theorem dX4_copyFrom_5 : decode cX4_copyFrom 5 = .ok (.putfield 17, 3) := by decide +kernel
theorem dX4_copyFrom_8 : decode cX4_copyFrom 8 = .ok (.iconst 0, 1) := by decide +kernel
theorem dX4_copyFrom_9 : decode cX4_copyFrom 9 = .ok (.istore_n 2, 1) := by decide +kernel
theorem dX4_copyFrom_10 : decode cX4_copyFrom 10 = .ok (.iload_n 2, 1) := by decide +kernel
theorem dX4_copyFrom_11 : decode cX4_copyFrom 11 = .ok (.aload_n 0, 1) := by decide +kernel
theorem dX4_copyFrom_12 : decode cX4_copyFrom 12 = .ok (.getfield 11, 3) := by decide +kernel
theorem dX4_copyFrom_15 : decode cX4_copyFrom 15 = .ok (.arraylength, 1) := by decide +kernel
theorem dX4_copyFrom_16 : decode cX4_copyFrom 16 = .ok (.if_icmp .ge 20, 3) := by decide +kernel
theorem dX4_copyFrom_19 : decode cX4_copyFrom 19 = .ok (.aload_n 0, 1) := by decide +kernel
theorem dX4_copyFrom_20 : decode cX4_copyFrom 20 = .ok (.getfield 11, 3) := by decide +kernel
theorem dX4_copyFrom_23 : decode cX4_copyFrom 23 = .ok (.iload_n 2, 1) := by decide +kernel
theorem dX4_copyFrom_24 : decode cX4_copyFrom 24 = .ok (.aload_n 1, 1) := by decide +kernel
theorem dX4_copyFrom_25 : decode cX4_copyFrom 25 = .ok (.iload_n 2, 1) := by decide +kernel
theorem dX4_copyFrom_26 : decode cX4_copyFrom 26 = .ok (.invokevirtual 21, 3) := by decide +kernel
theorem dX4_copyFrom_29 : decode cX4_copyFrom 29 = .ok (.aastore, 1) := by decide +kernel
theorem dX4_copyFrom_30 : decode cX4_copyFrom 30 = .ok (.iinc 2 1, 3) := by decide +kernel
theorem dX4_copyFrom_33 : decode cX4_copyFrom 33 = .ok (.goto (-23), 3) := by decide +kernel
theorem dX4_copyFrom_36 : decode cX4_copyFrom 36 = .ok (.return_, 1) := by decide +kernel
theorem dX4_numbered_0 : decode cX4_numbered 0 = .ok (.iload_n 1, 1) := by decide +kernel
theorem dX4_numbered_1 : decode cX4_numbered 1 = .ok (.ifCond .lt 21, 3) := by decide +kernel
theorem dX4_numbered_4 : decode cX4_numbered 4 = .ok (.iload_n 1, 1) := by decide +kernel
theorem dX4_numbered_5 : decode cX4_numbered 5 = .ok (.aload_n 0, 1) := by decide +kernel
theorem dX4_numbered_6 : decode cX4_numbered 6 = .ok (.getfield 11, 3) := by decide +kernel
theorem dX4_numbered_9 : decode cX4_numbered 9 = .ok (.arraylength, 1) := by decide +kernel
theorem dX4_numbered_10 : decode cX4_numbered 10 = .ok (.if_icmp .ge 12, 3) := by decide +kernel
theorem dX4_numbered_13 : decode cX4_numbered 13 = .ok (.aload_n 0, 1) := by decide +kernel
theorem dX4_numbered_14 : decode cX4_numbered 14 = .ok (.getfield 11, 3) := by decide +kernel
theorem dX4_numbered_17 : decode cX4_numbered 17 = .ok (.iload_n 1, 1) := by decide +kernel
theorem dX4_numbered_18 : decode cX4_numbered 18 = .ok (.aaload, 1) := by decide +kernel
theorem dX4_numbered_19 : decode cX4_numbered 19 = .ok (.goto 4, 3) := by decide +kernel
theorem dX4_numbered_22 : decode cX4_numbered 22 = .ok (.aconst_null, 1) := by decide +kernel
theorem dX4_numbered_23 : decode cX4_numbered 23 = .ok (.areturn, 1) := by decide +kernel
theorem dX4_isFull_0 : decode cX4_isFull 0 = .ok (.aload_n 0, 1) := by decide +kernel
theorem dX4_isFull_1 : decode cX4_isFull 1 = .ok (.getfield 17, 3) := by decide +kernel
theorem dX4_isFull_4 : decode cX4_isFull 4 = .ok (.bipush 12, 2) := by decide +kernel
theorem dX4_isFull_6 : decode cX4_isFull 6 = .ok (.if_icmp .lt 7, 3) := by decide +kernel
theorem dX4_isFull_9 : decode cX4_isFull 9 = .ok (.iconst 1, 1) := by decide +kernel
theorem dX4_isFull_10 : decode cX4_isFull 10 = .ok (.goto 4, 3) := by decide +kernel
theorem dX4_isFull_13 : decode cX4_isFull 13 = .ok (.iconst 0, 1) := by decide +kernel
theorem dX4_isFull_14 : decode cX4_isFull 14 = .ok (.ireturn, 1) := by decide +kernel
theorem dX4_addNew_0 : decode cX4_addNew 0 = .ok (.aload_n 0, 1) := by decide +kernel
theorem dX4_addNew_1 : decode cX4_addNew 1 = .ok (.getfield 17, 3) := by decide +kernel
theorem dX4_addNew_4 : decode cX4_addNew 4 = .ok (.istore 5, 2) := by decide +kernel
theorem dX4_addNew_6 : decode cX4_addNew 6 = .ok (.aload_n 0, 1) := by decide +kernel
theorem dX4_addNew_7 : decode cX4_addNew 7 = .ok (.dup, 1) := by decide +kernel
theorem dX4_addNew_8 : decode cX4_addNew 8 = .ok (.getfield 17, 3) := by decide +kernel
theorem dX4_addNew_11 : decode cX4_addNew 11 = .ok (.iconst 1, 1) := by decide +kernel
theorem dX4_addNew_12 : decode cX4_addNew 12 = .ok (.iadd, 1) := by decide +kernel
theorem dX4_addNew_13 : decode cX4_addNew 13 = .ok (.putfield 17, 3) := by decide +kernel
theorem dX4_addNew_16 : decode cX4_addNew 16 = .ok (.aload_n 0, 1) := by decide +kernel
theorem dX4_addNew_17 : decode cX4_addNew 17 = .ok (.new 9, 3) := by decide +kernel
theorem dX4_addNew_20 : decode cX4_addNew 20 = .ok (.dup, 1) := by decide +kernel
theorem dX4_addNew_21 : decode cX4_addNew 21 = .ok (.iload 5, 2) := by decide +kernel
theorem dX4_addNew_23 : decode cX4_addNew 23 = .ok (.iload_n 1, 1) := by decide +kernel
theorem dX4_addNew_24 : decode cX4_addNew 24 = .ok (.iload_n 2, 1) := by decide +kernel
theorem dX4_addNew_25 : decode cX4_addNew 25 = .ok (.iload_n 3, 1) := by decide +kernel
theorem dX4_addNew_26 : decode cX4_addNew 26 = .ok (.iload 4, 2) := by decide +kernel
theorem dX4_addNew_28 : decode cX4_addNew 28 = .ok (.invokespecial 25, 3) := by decide +kernel
theorem dX4_addNew_31 : decode cX4_addNew 31 = .ok (.invokevirtual 28, 3) := by decide +kernel
theorem dX4_addNew_34 : decode cX4_addNew 34 = .ok (.iload 5, 2) := by decide +kernel
theorem dX4_addNew_36 : decode cX4_addNew 36 = .ok (.ireturn, 1) := by decide +kernel
theorem dX4_replace_0 : decode cX4_replace 0 = .ok (.aload_n 1, 1) := by decide +kernel
theorem dX4_replace_1 : decode cX4_replace 1 = .ok (.getfield 32, 3) := by decide +kernel
theorem dX4_replace_4 : decode cX4_replace 4 = .ok (.ifCond .lt 25, 3) := by decide +kernel
theorem dX4_replace_7 : decode cX4_replace 7 = .ok (.aload_n 1, 1) := by decide +kernel
theorem dX4_replace_8 : decode cX4_replace 8 = .ok (.getfield 32, 3) := by decide +kernel
theorem dX4_replace_11 : decode cX4_replace 11 = .ok (.aload_n 0, 1) := by decide +kernel
theorem dX4_replace_12 : decode cX4_replace 12 = .ok (.getfield 11, 3) := by decide +kernel
theorem dX4_replace_15 : decode cX4_replace 15 = .ok (.arraylength, 1) := by decide +kernel
theorem dX4_replace_16 : decode cX4_replace 16 = .ok (.if_icmp .ge 13, 3) := by decide +kernel
theorem dX4_replace_19 : decode cX4_replace 19 = .ok (.aload_n 0, 1) := by decide +kernel
theorem dX4_replace_20 : decode cX4_replace 20 = .ok (.getfield 11, 3) := by decide +kernel
theorem dX4_replace_23 : decode cX4_replace 23 = .ok (.aload_n 1, 1) := by decide +kernel
theorem dX4_replace_24 : decode cX4_replace 24 = .ok (.getfield 32, 3) := by decide +kernel
theorem dX4_replace_27 : decode cX4_replace 27 = .ok (.aload_n 1, 1) := by decide +kernel
theorem dX4_replace_28 : decode cX4_replace 28 = .ok (.aastore, 1) := by decide +kernel
theorem dX4_replace_29 : decode cX4_replace 29 = .ok (.return_, 1) := by decide +kernel
theorem dX4_openOnes_0 : decode cX4_openOnes 0 = .ok (.iconst 0, 1) := by decide +kernel
theorem dX4_openOnes_1 : decode cX4_openOnes 1 = .ok (.istore_n 1, 1) := by decide +kernel
theorem dX4_openOnes_2 : decode cX4_openOnes 2 = .ok (.iconst 0, 1) := by decide +kernel
theorem dX4_openOnes_3 : decode cX4_openOnes 3 = .ok (.istore_n 2, 1) := by decide +kernel
theorem dX4_openOnes_4 : decode cX4_openOnes 4 = .ok (.iload_n 2, 1) := by decide +kernel
theorem dX4_openOnes_5 : decode cX4_openOnes 5 = .ok (.aload_n 0, 1) := by decide +kernel
theorem dX4_openOnes_6 : decode cX4_openOnes 6 = .ok (.getfield 11, 3) := by decide +kernel
theorem dX4_openOnes_9 : decode cX4_openOnes 9 = .ok (.arraylength, 1) := by decide +kernel
theorem dX4_openOnes_10 : decode cX4_openOnes 10 = .ok (.if_icmp .ge 30, 3) := by decide +kernel
theorem dX4_openOnes_13 : decode cX4_openOnes 13 = .ok (.aload_n 0, 1) := by decide +kernel
theorem dX4_openOnes_14 : decode cX4_openOnes 14 = .ok (.getfield 11, 3) := by decide +kernel
theorem dX4_openOnes_17 : decode cX4_openOnes 17 = .ok (.iload_n 2, 1) := by decide +kernel
theorem dX4_openOnes_18 : decode cX4_openOnes 18 = .ok (.aaload, 1) := by decide +kernel
theorem dX4_openOnes_19 : decode cX4_openOnes 19 = .ok (.astore_n 3, 1) := by decide +kernel
theorem dX4_openOnes_20 : decode cX4_openOnes 20 = .ok (.aload_n 3, 1) := by decide +kernel
theorem dX4_openOnes_21 : decode cX4_openOnes 21 = .ok (.ifnull 13, 3) := by decide +kernel
theorem dX4_openOnes_24 : decode cX4_openOnes 24 = .ok (.aload_n 3, 1) := by decide +kernel
theorem dX4_openOnes_25 : decode cX4_openOnes 25 = .ok (.invokevirtual 35, 3) := by decide +kernel
theorem dX4_openOnes_28 : decode cX4_openOnes 28 = .ok (.ifCond .eq 6, 3) := by decide +kernel
theorem dX4_openOnes_31 : decode cX4_openOnes 31 = .ok (.iinc 1 1, 3) := by decide +kernel
theorem dX4_openOnes_34 : decode cX4_openOnes 34 = .ok (.iinc 2 1, 3) := by decide +kernel
theorem dX4_openOnes_37 : decode cX4_openOnes 37 = .ok (.goto (-33), 3) := by decide +kernel
theorem dX4_openOnes_40 : decode cX4_openOnes 40 = .ok (.iload_n 1, 1) := by decide +kernel
theorem dX4_openOnes_41 : decode cX4_openOnes 41 = .ok (.ireturn, 1) := by decide +kernel
theorem dX4_lateOnes_0 : decode cX4_lateOnes 0 = .ok (.iconst 0, 1) := by decide +kernel
theorem dX4_lateOnes_1 : decode cX4_lateOnes 1 = .ok (.istore_n 2, 1) := by decide +kernel
theorem dX4_lateOnes_2 : decode cX4_lateOnes 2 = .ok (.iconst 0, 1) := by decide +kernel
theorem dX4_lateOnes_3 : decode cX4_lateOnes 3 = .ok (.istore_n 3, 1) := by decide +kernel
theorem dX4_lateOnes_4 : decode cX4_lateOnes 4 = .ok (.iload_n 3, 1) := by decide +kernel
theorem dX4_lateOnes_5 : decode cX4_lateOnes 5 = .ok (.aload_n 0, 1) := by decide +kernel
theorem dX4_lateOnes_6 : decode cX4_lateOnes 6 = .ok (.getfield 11, 3) := by decide +kernel
theorem dX4_lateOnes_9 : decode cX4_lateOnes 9 = .ok (.arraylength, 1) := by decide +kernel
theorem dX4_lateOnes_10 : decode cX4_lateOnes 10 = .ok (.if_icmp .ge 34, 3) := by decide +kernel
theorem dX4_lateOnes_13 : decode cX4_lateOnes 13 = .ok (.aload_n 0, 1) := by decide +kernel
theorem dX4_lateOnes_14 : decode cX4_lateOnes 14 = .ok (.getfield 11, 3) := by decide +kernel
theorem dX4_lateOnes_17 : decode cX4_lateOnes 17 = .ok (.iload_n 3, 1) := by decide +kernel
theorem dX4_lateOnes_18 : decode cX4_lateOnes 18 = .ok (.aaload, 1) := by decide +kernel
theorem dX4_lateOnes_19 : decode cX4_lateOnes 19 = .ok (.astore 4, 2) := by decide +kernel
theorem dX4_lateOnes_21 : decode cX4_lateOnes 21 = .ok (.aload 4, 2) := by decide +kernel
theorem dX4_lateOnes_23 : decode cX4_lateOnes 23 = .ok (.ifnull 15, 3) := by decide +kernel
theorem dX4_lateOnes_26 : decode cX4_lateOnes 26 = .ok (.aload 4, 2) := by decide +kernel
theorem dX4_lateOnes_28 : decode cX4_lateOnes 28 = .ok (.iload_n 1, 1) := by decide +kernel
theorem dX4_lateOnes_29 : decode cX4_lateOnes 29 = .ok (.invokevirtual 39, 3) := by decide +kernel
theorem dX4_lateOnes_32 : decode cX4_lateOnes 32 = .ok (.ifCond .eq 6, 3) := by decide +kernel
theorem dX4_lateOnes_35 : decode cX4_lateOnes 35 = .ok (.iinc 2 1, 3) := by decide +kernel
theorem dX4_lateOnes_38 : decode cX4_lateOnes 38 = .ok (.iinc 3 1, 3) := by decide +kernel
theorem dX4_lateOnes_41 : decode cX4_lateOnes 41 = .ok (.goto (-37), 3) := by decide +kernel
theorem dX4_lateOnes_44 : decode cX4_lateOnes 44 = .ok (.iload_n 2, 1) := by decide +kernel
theorem dX4_lateOnes_45 : decode cX4_lateOnes 45 = .ok (.ireturn, 1) := by decide +kernel
theorem dX4_nextOpen_0 : decode cX4_nextOpen 0 = .ok (.aconst_null, 1) := by decide +kernel
theorem dX4_nextOpen_1 : decode cX4_nextOpen 1 = .ok (.astore_n 2, 1) := by decide +kernel
theorem dX4_nextOpen_2 : decode cX4_nextOpen 2 = .ok (.iconst 0, 1) := by decide +kernel
theorem dX4_nextOpen_3 : decode cX4_nextOpen 3 = .ok (.istore_n 3, 1) := by decide +kernel
theorem dX4_nextOpen_4 : decode cX4_nextOpen 4 = .ok (.iload_n 3, 1) := by decide +kernel
theorem dX4_nextOpen_5 : decode cX4_nextOpen 5 = .ok (.aload_n 0, 1) := by decide +kernel
theorem dX4_nextOpen_6 : decode cX4_nextOpen 6 = .ok (.getfield 11, 3) := by decide +kernel
theorem dX4_nextOpen_9 : decode cX4_nextOpen 9 = .ok (.arraylength, 1) := by decide +kernel
theorem dX4_nextOpen_10 : decode cX4_nextOpen 10 = .ok (.if_icmp .ge 59, 3) := by decide +kernel
theorem dX4_nextOpen_13 : decode cX4_nextOpen 13 = .ok (.aload_n 0, 1) := by decide +kernel
theorem dX4_nextOpen_14 : decode cX4_nextOpen 14 = .ok (.getfield 11, 3) := by decide +kernel
theorem dX4_nextOpen_17 : decode cX4_nextOpen 17 = .ok (.iload_n 3, 1) := by decide +kernel
theorem dX4_nextOpen_18 : decode cX4_nextOpen 18 = .ok (.aaload, 1) := by decide +kernel
theorem dX4_nextOpen_19 : decode cX4_nextOpen 19 = .ok (.astore 4, 2) := by decide +kernel
theorem dX4_nextOpen_21 : decode cX4_nextOpen 21 = .ok (.aload 4, 2) := by decide +kernel
theorem dX4_nextOpen_23 : decode cX4_nextOpen 23 = .ok (.ifnull 40, 3) := by decide +kernel
theorem dX4_nextOpen_26 : decode cX4_nextOpen 26 = .ok (.aload 4, 2) := by decide +kernel
theorem dX4_nextOpen_28 : decode cX4_nextOpen 28 = .ok (.invokevirtual 35, 3) := by decide +kernel
theorem dX4_nextOpen_31 : decode cX4_nextOpen 31 = .ok (.ifCond .eq 32, 3) := by decide +kernel
theorem dX4_nextOpen_34 : decode cX4_nextOpen 34 = .ok (.aload_n 1, 1) := by decide +kernel
theorem dX4_nextOpen_35 : decode cX4_nextOpen 35 = .ok (.ifnull 12, 3) := by decide +kernel
theorem dX4_nextOpen_38 : decode cX4_nextOpen 38 = .ok (.aload_n 1, 1) := by decide +kernel
theorem dX4_nextOpen_39 : decode cX4_nextOpen 39 = .ok (.aload 4, 2) := by decide +kernel
theorem dX4_nextOpen_41 : decode cX4_nextOpen 41 = .ok (.invokevirtual 43, 3) := by decide +kernel
theorem dX4_nextOpen_44 : decode cX4_nextOpen 44 = .ok (.ifCond .eq 19, 3) := by decide +kernel
theorem dX4_nextOpen_47 : decode cX4_nextOpen 47 = .ok (.aload_n 2, 1) := by decide +kernel
theorem dX4_nextOpen_48 : decode cX4_nextOpen 48 = .ok (.ifnull 12, 3) := by decide +kernel
theorem dX4_nextOpen_51 : decode cX4_nextOpen 51 = .ok (.aload 4, 2) := by decide +kernel
theorem dX4_nextOpen_53 : decode cX4_nextOpen 53 = .ok (.aload_n 2, 1) := by decide +kernel
theorem dX4_nextOpen_54 : decode cX4_nextOpen 54 = .ok (.invokevirtual 43, 3) := by decide +kernel
theorem dX4_nextOpen_57 : decode cX4_nextOpen 57 = .ok (.ifCond .eq 6, 3) := by decide +kernel
theorem dX4_nextOpen_60 : decode cX4_nextOpen 60 = .ok (.aload 4, 2) := by decide +kernel
theorem dX4_nextOpen_62 : decode cX4_nextOpen 62 = .ok (.astore_n 2, 1) := by decide +kernel
theorem dX4_nextOpen_63 : decode cX4_nextOpen 63 = .ok (.iinc 3 1, 3) := by decide +kernel
theorem dX4_nextOpen_66 : decode cX4_nextOpen 66 = .ok (.goto (-62), 3) := by decide +kernel
theorem dX4_nextOpen_69 : decode cX4_nextOpen 69 = .ok (.aload_n 2, 1) := by decide +kernel
theorem dX4_nextOpen_70 : decode cX4_nextOpen 70 = .ok (.areturn, 1) := by decide +kernel
theorem dX4_openAtRank_0 : decode cX4_openAtRank 0 = .ok (.iload_n 1, 1) := by decide +kernel
theorem dX4_openAtRank_1 : decode cX4_openAtRank 1 = .ok (.bipush 12, 2) := by decide +kernel
theorem dX4_openAtRank_3 : decode cX4_openAtRank 3 = .ok (.if_icmp .lt 5, 3) := by decide +kernel
theorem dX4_openAtRank_6 : decode cX4_openAtRank 6 = .ok (.aconst_null, 1) := by decide +kernel
theorem dX4_openAtRank_7 : decode cX4_openAtRank 7 = .ok (.areturn, 1) := by decide +kernel
theorem dX4_openAtRank_8 : decode cX4_openAtRank 8 = .ok (.aload_n 0, 1) := by decide +kernel
theorem dX4_openAtRank_9 : decode cX4_openAtRank 9 = .ok (.aconst_null, 1) := by decide +kernel
theorem dX4_openAtRank_10 : decode cX4_openAtRank 10 = .ok (.invokevirtual 47, 3) := by decide +kernel
theorem dX4_openAtRank_13 : decode cX4_openAtRank 13 = .ok (.astore_n 2, 1) := by decide +kernel
theorem dX4_openAtRank_14 : decode cX4_openAtRank 14 = .ok (.iconst 0, 1) := by decide +kernel
theorem dX4_openAtRank_15 : decode cX4_openAtRank 15 = .ok (.istore_n 3, 1) := by decide +kernel
theorem dX4_openAtRank_16 : decode cX4_openAtRank 16 = .ok (.iload_n 3, 1) := by decide +kernel
theorem dX4_openAtRank_17 : decode cX4_openAtRank 17 = .ok (.iload_n 1, 1) := by decide +kernel
theorem dX4_openAtRank_18 : decode cX4_openAtRank 18 = .ok (.if_icmp .ge 19, 3) := by decide +kernel
theorem dX4_openAtRank_21 : decode cX4_openAtRank 21 = .ok (.aload_n 2, 1) := by decide +kernel
theorem dX4_openAtRank_22 : decode cX4_openAtRank 22 = .ok (.ifnull 15, 3) := by decide +kernel
theorem dX4_openAtRank_25 : decode cX4_openAtRank 25 = .ok (.aload_n 0, 1) := by decide +kernel
theorem dX4_openAtRank_26 : decode cX4_openAtRank 26 = .ok (.aload_n 2, 1) := by decide +kernel
theorem dX4_openAtRank_27 : decode cX4_openAtRank 27 = .ok (.invokevirtual 47, 3) := by decide +kernel
theorem dX4_openAtRank_30 : decode cX4_openAtRank 30 = .ok (.astore_n 2, 1) := by decide +kernel
theorem dX4_openAtRank_31 : decode cX4_openAtRank 31 = .ok (.iinc 3 1, 3) := by decide +kernel
theorem dX4_openAtRank_34 : decode cX4_openAtRank 34 = .ok (.goto (-18), 3) := by decide +kernel
theorem dX4_openAtRank_37 : decode cX4_openAtRank 37 = .ok (.aload_n 2, 1) := by decide +kernel
theorem dX4_openAtRank_38 : decode cX4_openAtRank 38 = .ok (.areturn, 1) := by decide +kernel
theorem dX5_init_0 : decode cX5_init 0 = .ok (.aload_n 0, 1) := by decide +kernel
theorem dX5_init_1 : decode cX5_init 1 = .ok (.invokespecial 3, 3) := by decide +kernel
theorem dX5_init_4 : decode cX5_init 4 = .ok (.aload_n 0, 1) := by decide +kernel
theorem dX5_init_5 : decode cX5_init 5 = .ok (.bipush 32, 2) := by decide +kernel
theorem dX5_init_7 : decode cX5_init 7 = .ok (.anewarray 9, 3) := by decide +kernel
theorem dX5_init_10 : decode cX5_init 10 = .ok (.putfield 11, 3) := by decide +kernel
theorem dX5_init_13 : decode cX5_init 13 = .ok (.aload_n 0, 1) := by decide +kernel
theorem dX5_init_14 : decode cX5_init 14 = .ok (.iconst 0, 1) := by decide +kernel
theorem dX5_init_15 : decode cX5_init 15 = .ok (.putfield 17, 3) := by decide +kernel
theorem dX5_init_18 : decode cX5_init 18 = .ok (.return_, 1) := by decide +kernel
theorem dX5_copyFrom_0 : decode cX5_copyFrom 0 = .ok (.aload_n 0, 1) := by decide +kernel
theorem dX5_copyFrom_1 : decode cX5_copyFrom 1 = .ok (.aload_n 1, 1) := by decide +kernel
theorem dX5_copyFrom_2 : decode cX5_copyFrom 2 = .ok (.getfield 17, 3) := by decide +kernel
theorem dX5_copyFrom_5 : decode cX5_copyFrom 5 = .ok (.putfield 17, 3) := by decide +kernel
theorem dX5_copyFrom_8 : decode cX5_copyFrom 8 = .ok (.iconst 0, 1) := by decide +kernel
theorem dX5_copyFrom_9 : decode cX5_copyFrom 9 = .ok (.istore_n 2, 1) := by decide +kernel
theorem dX5_copyFrom_10 : decode cX5_copyFrom 10 = .ok (.iload_n 2, 1) := by decide +kernel
theorem dX5_copyFrom_11 : decode cX5_copyFrom 11 = .ok (.aload_n 0, 1) := by decide +kernel
theorem dX5_copyFrom_12 : decode cX5_copyFrom 12 = .ok (.getfield 11, 3) := by decide +kernel
theorem dX5_copyFrom_15 : decode cX5_copyFrom 15 = .ok (.arraylength, 1) := by decide +kernel
theorem dX5_copyFrom_16 : decode cX5_copyFrom 16 = .ok (.if_icmp .ge 20, 3) := by decide +kernel
theorem dX5_copyFrom_19 : decode cX5_copyFrom 19 = .ok (.aload_n 0, 1) := by decide +kernel
theorem dX5_copyFrom_20 : decode cX5_copyFrom 20 = .ok (.getfield 11, 3) := by decide +kernel
theorem dX5_copyFrom_23 : decode cX5_copyFrom 23 = .ok (.iload_n 2, 1) := by decide +kernel
theorem dX5_copyFrom_24 : decode cX5_copyFrom 24 = .ok (.aload_n 1, 1) := by decide +kernel
theorem dX5_copyFrom_25 : decode cX5_copyFrom 25 = .ok (.iload_n 2, 1) := by decide +kernel
theorem dX5_copyFrom_26 : decode cX5_copyFrom 26 = .ok (.invokevirtual 21, 3) := by decide +kernel
theorem dX5_copyFrom_29 : decode cX5_copyFrom 29 = .ok (.aastore, 1) := by decide +kernel
theorem dX5_copyFrom_30 : decode cX5_copyFrom 30 = .ok (.iinc 2 1, 3) := by decide +kernel
theorem dX5_copyFrom_33 : decode cX5_copyFrom 33 = .ok (.goto (-23), 3) := by decide +kernel
theorem dX5_copyFrom_36 : decode cX5_copyFrom 36 = .ok (.return_, 1) := by decide +kernel
theorem dX5_inSlot_0 : decode cX5_inSlot 0 = .ok (.iload_n 1, 1) := by decide +kernel
theorem dX5_inSlot_1 : decode cX5_inSlot 1 = .ok (.ifCond .lt 21, 3) := by decide +kernel
theorem dX5_inSlot_4 : decode cX5_inSlot 4 = .ok (.iload_n 1, 1) := by decide +kernel
theorem dX5_inSlot_5 : decode cX5_inSlot 5 = .ok (.aload_n 0, 1) := by decide +kernel
theorem dX5_inSlot_6 : decode cX5_inSlot 6 = .ok (.getfield 11, 3) := by decide +kernel
theorem dX5_inSlot_9 : decode cX5_inSlot 9 = .ok (.arraylength, 1) := by decide +kernel
theorem dX5_inSlot_10 : decode cX5_inSlot 10 = .ok (.if_icmp .ge 12, 3) := by decide +kernel
theorem dX5_inSlot_13 : decode cX5_inSlot 13 = .ok (.aload_n 0, 1) := by decide +kernel
theorem dX5_inSlot_14 : decode cX5_inSlot 14 = .ok (.getfield 11, 3) := by decide +kernel
theorem dX5_inSlot_17 : decode cX5_inSlot 17 = .ok (.iload_n 1, 1) := by decide +kernel
theorem dX5_inSlot_18 : decode cX5_inSlot 18 = .ok (.aaload, 1) := by decide +kernel
theorem dX5_inSlot_19 : decode cX5_inSlot 19 = .ok (.goto 4, 3) := by decide +kernel
theorem dX5_inSlot_22 : decode cX5_inSlot 22 = .ok (.aconst_null, 1) := by decide +kernel
theorem dX5_inSlot_23 : decode cX5_inSlot 23 = .ok (.areturn, 1) := by decide +kernel
theorem dX5_slotOf_0 : decode cX5_slotOf 0 = .ok (.iconst 0, 1) := by decide +kernel
theorem dX5_slotOf_1 : decode cX5_slotOf 1 = .ok (.istore_n 2, 1) := by decide +kernel
theorem dX5_slotOf_2 : decode cX5_slotOf 2 = .ok (.iload_n 2, 1) := by decide +kernel
theorem dX5_slotOf_3 : decode cX5_slotOf 3 = .ok (.aload_n 0, 1) := by decide +kernel
theorem dX5_slotOf_4 : decode cX5_slotOf 4 = .ok (.getfield 11, 3) := by decide +kernel
theorem dX5_slotOf_7 : decode cX5_slotOf 7 = .ok (.arraylength, 1) := by decide +kernel
theorem dX5_slotOf_8 : decode cX5_slotOf 8 = .ok (.if_icmp .ge 30, 3) := by decide +kernel
theorem dX5_slotOf_11 : decode cX5_slotOf 11 = .ok (.aload_n 0, 1) := by decide +kernel
theorem dX5_slotOf_12 : decode cX5_slotOf 12 = .ok (.getfield 11, 3) := by decide +kernel
theorem dX5_slotOf_15 : decode cX5_slotOf 15 = .ok (.iload_n 2, 1) := by decide +kernel
theorem dX5_slotOf_16 : decode cX5_slotOf 16 = .ok (.aaload, 1) := by decide +kernel
theorem dX5_slotOf_17 : decode cX5_slotOf 17 = .ok (.astore_n 3, 1) := by decide +kernel
theorem dX5_slotOf_18 : decode cX5_slotOf 18 = .ok (.aload_n 3, 1) := by decide +kernel
theorem dX5_slotOf_19 : decode cX5_slotOf 19 = .ok (.ifnull 13, 3) := by decide +kernel
theorem dX5_slotOf_22 : decode cX5_slotOf 22 = .ok (.aload_n 3, 1) := by decide +kernel
theorem dX5_slotOf_23 : decode cX5_slotOf 23 = .ok (.getfield 25, 3) := by decide +kernel
theorem dX5_slotOf_26 : decode cX5_slotOf 26 = .ok (.iload_n 1, 1) := by decide +kernel
theorem dX5_slotOf_27 : decode cX5_slotOf 27 = .ok (.if_icmp .ne 5, 3) := by decide +kernel
theorem dX5_slotOf_30 : decode cX5_slotOf 30 = .ok (.iload_n 2, 1) := by decide +kernel
theorem dX5_slotOf_31 : decode cX5_slotOf 31 = .ok (.ireturn, 1) := by decide +kernel
theorem dX5_slotOf_32 : decode cX5_slotOf 32 = .ok (.iinc 2 1, 3) := by decide +kernel
theorem dX5_slotOf_35 : decode cX5_slotOf 35 = .ok (.goto (-33), 3) := by decide +kernel
theorem dX5_slotOf_38 : decode cX5_slotOf 38 = .ok (.bipush (-5), 2) := by decide +kernel
theorem dX5_slotOf_40 : decode cX5_slotOf 40 = .ok (.ireturn, 1) := by decide +kernel
theorem dX5_filled_0 : decode cX5_filled 0 = .ok (.iconst 0, 1) := by decide +kernel
theorem dX5_filled_1 : decode cX5_filled 1 = .ok (.istore_n 2, 1) := by decide +kernel
theorem dX5_filled_2 : decode cX5_filled 2 = .ok (.iconst 0, 1) := by decide +kernel
theorem dX5_filled_3 : decode cX5_filled 3 = .ok (.istore_n 3, 1) := by decide +kernel
theorem dX5_filled_4 : decode cX5_filled 4 = .ok (.iload_n 3, 1) := by decide +kernel
theorem dX5_filled_5 : decode cX5_filled 5 = .ok (.aload_n 0, 1) := by decide +kernel
theorem dX5_filled_6 : decode cX5_filled 6 = .ok (.getfield 11, 3) := by decide +kernel
theorem dX5_filled_9 : decode cX5_filled 9 = .ok (.arraylength, 1) := by decide +kernel
theorem dX5_filled_10 : decode cX5_filled 10 = .ok (.if_icmp .ge 29, 3) := by decide +kernel
theorem dX5_filled_13 : decode cX5_filled 13 = .ok (.iload_n 3, 1) := by decide +kernel
theorem dX5_filled_14 : decode cX5_filled 14 = .ok (.bipush 8, 2) := by decide +kernel
theorem dX5_filled_16 : decode cX5_filled 16 = .ok (.idiv, 1) := by decide +kernel
theorem dX5_filled_17 : decode cX5_filled 17 = .ok (.iload_n 1, 1) := by decide +kernel
theorem dX5_filled_18 : decode cX5_filled 18 = .ok (.if_icmp .ne 15, 3) := by decide +kernel
theorem dX5_filled_21 : decode cX5_filled 21 = .ok (.aload_n 0, 1) := by decide +kernel
theorem dX5_filled_22 : decode cX5_filled 22 = .ok (.getfield 11, 3) := by decide +kernel
theorem dX5_filled_25 : decode cX5_filled 25 = .ok (.iload_n 3, 1) := by decide +kernel
theorem dX5_filled_26 : decode cX5_filled 26 = .ok (.aaload, 1) := by decide +kernel
theorem dX5_filled_27 : decode cX5_filled 27 = .ok (.ifnull 6, 3) := by decide +kernel
theorem dX5_filled_30 : decode cX5_filled 30 = .ok (.iinc 2 1, 3) := by decide +kernel
theorem dX5_filled_33 : decode cX5_filled 33 = .ok (.iinc 3 1, 3) := by decide +kernel
theorem dX5_filled_36 : decode cX5_filled 36 = .ok (.goto (-32), 3) := by decide +kernel
theorem dX5_filled_39 : decode cX5_filled 39 = .ok (.iload_n 2, 1) := by decide +kernel
theorem dX5_filled_40 : decode cX5_filled 40 = .ok (.ireturn, 1) := by decide +kernel
theorem dX5_isFull_0 : decode cX5_isFull 0 = .ok (.aload_n 0, 1) := by decide +kernel
theorem dX5_isFull_1 : decode cX5_isFull 1 = .ok (.iload_n 1, 1) := by decide +kernel
theorem dX5_isFull_2 : decode cX5_isFull 2 = .ok (.invokevirtual 28, 3) := by decide +kernel
theorem dX5_isFull_5 : decode cX5_isFull 5 = .ok (.bipush 8, 2) := by decide +kernel
theorem dX5_isFull_7 : decode cX5_isFull 7 = .ok (.if_icmp .lt 7, 3) := by decide +kernel
theorem dX5_isFull_10 : decode cX5_isFull 10 = .ok (.iconst 1, 1) := by decide +kernel
theorem dX5_isFull_11 : decode cX5_isFull 11 = .ok (.goto 4, 3) := by decide +kernel
theorem dX5_isFull_14 : decode cX5_isFull 14 = .ok (.iconst 0, 1) := by decide +kernel
theorem dX5_isFull_15 : decode cX5_isFull 15 = .ok (.ireturn, 1) := by decide +kernel
theorem dX5_hasRoom_0 : decode cX5_hasRoom 0 = .ok (.aload_n 0, 1) := by decide +kernel
theorem dX5_hasRoom_1 : decode cX5_hasRoom 1 = .ok (.getfield 17, 3) := by decide +kernel
theorem dX5_hasRoom_4 : decode cX5_hasRoom 4 = .ok (.sipush 200, 3) := by decide +kernel
theorem dX5_hasRoom_7 : decode cX5_hasRoom 7 = .ok (.if_icmp .ge 17, 3) := by decide +kernel
theorem dX5_hasRoom_10 : decode cX5_hasRoom 10 = .ok (.aload_n 0, 1) := by decide +kernel
theorem dX5_hasRoom_11 : decode cX5_hasRoom 11 = .ok (.iload_n 1, 1) := by decide +kernel
theorem dX5_hasRoom_12 : decode cX5_hasRoom 12 = .ok (.invokevirtual 28, 3) := by decide +kernel
theorem dX5_hasRoom_15 : decode cX5_hasRoom 15 = .ok (.bipush 8, 2) := by decide +kernel
theorem dX5_hasRoom_17 : decode cX5_hasRoom 17 = .ok (.if_icmp .ge 7, 3) := by decide +kernel
theorem dX5_hasRoom_20 : decode cX5_hasRoom 20 = .ok (.iconst 1, 1) := by decide +kernel
theorem dX5_hasRoom_21 : decode cX5_hasRoom 21 = .ok (.goto 4, 3) := by decide +kernel
theorem dX5_hasRoom_24 : decode cX5_hasRoom 24 = .ok (.iconst 0, 1) := by decide +kernel
theorem dX5_hasRoom_25 : decode cX5_hasRoom 25 = .ok (.ireturn, 1) := by decide +kernel
theorem dX5_sheetsBefore_0 : decode cX5_sheetsBefore 0 = .ok (.aload_n 0, 1) := by decide +kernel
theorem dX5_sheetsBefore_1 : decode cX5_sheetsBefore 1 = .ok (.iload_n 1, 1) := by decide +kernel
theorem dX5_sheetsBefore_2 : decode cX5_sheetsBefore 2 = .ok (.bipush 8, 2) := by decide +kernel
theorem dX5_sheetsBefore_4 : decode cX5_sheetsBefore 4 = .ok (.idiv, 1) := by decide +kernel
theorem dX5_sheetsBefore_5 : decode cX5_sheetsBefore 5 = .ok (.invokevirtual 28, 3) := by decide +kernel
theorem dX5_sheetsBefore_8 : decode cX5_sheetsBefore 8 = .ok (.iconst 1, 1) := by decide +kernel
theorem dX5_sheetsBefore_9 : decode cX5_sheetsBefore 9 = .ok (.isub, 1) := by decide +kernel
theorem dX5_sheetsBefore_10 : decode cX5_sheetsBefore 10 = .ok (.iload_n 1, 1) := by decide +kernel
theorem dX5_sheetsBefore_11 : decode cX5_sheetsBefore 11 = .ok (.bipush 8, 2) := by decide +kernel
