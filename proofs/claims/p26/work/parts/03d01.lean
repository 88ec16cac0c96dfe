theorem dX5_sheetsBefore_13 : decode cX5_sheetsBefore 13 = .ok (.irem, 1) := by decide +kernel
theorem dX5_sheetsBefore_14 : decode cX5_sheetsBefore 14 = .ok (.isub, 1) := by decide +kernel
theorem dX5_sheetsBefore_15 : decode cX5_sheetsBefore 15 = .ok (.ireturn, 1) := by decide +kernel
theorem dX5_atPlace_0 : decode cX5_atPlace 0 = .ok (.aload_n 0, 1) := by decide +kernel
theorem dX5_atPlace_1 : decode cX5_atPlace 1 = .ok (.iload_n 1, 1) := by decide +kernel
theorem dX5_atPlace_2 : decode cX5_atPlace 2 = .ok (.invokevirtual 28, 3) := by decide +kernel
theorem dX5_atPlace_5 : decode cX5_atPlace 5 = .ok (.istore_n 3, 1) := by decide +kernel
theorem dX5_atPlace_6 : decode cX5_atPlace 6 = .ok (.iload_n 2, 1) := by decide +kernel
theorem dX5_atPlace_7 : decode cX5_atPlace 7 = .ok (.iload_n 3, 1) := by decide +kernel
theorem dX5_atPlace_8 : decode cX5_atPlace 8 = .ok (.if_icmp .ge 20, 3) := by decide +kernel
theorem dX5_atPlace_11 : decode cX5_atPlace 11 = .ok (.aload_n 0, 1) := by decide +kernel
theorem dX5_atPlace_12 : decode cX5_atPlace 12 = .ok (.iload_n 1, 1) := by decide +kernel
theorem dX5_atPlace_13 : decode cX5_atPlace 13 = .ok (.bipush 8, 2) := by decide +kernel
theorem dX5_atPlace_15 : decode cX5_atPlace 15 = .ok (.imul, 1) := by decide +kernel
theorem dX5_atPlace_16 : decode cX5_atPlace 16 = .ok (.iload_n 3, 1) := by decide +kernel
theorem dX5_atPlace_17 : decode cX5_atPlace 17 = .ok (.iadd, 1) := by decide +kernel
theorem dX5_atPlace_18 : decode cX5_atPlace 18 = .ok (.iconst 1, 1) := by decide +kernel
theorem dX5_atPlace_19 : decode cX5_atPlace 19 = .ok (.isub, 1) := by decide +kernel
theorem dX5_atPlace_20 : decode cX5_atPlace 20 = .ok (.iload_n 2, 1) := by decide +kernel
theorem dX5_atPlace_21 : decode cX5_atPlace 21 = .ok (.isub, 1) := by decide +kernel
theorem dX5_atPlace_22 : decode cX5_atPlace 22 = .ok (.invokevirtual 21, 3) := by decide +kernel
theorem dX5_atPlace_25 : decode cX5_atPlace 25 = .ok (.goto 4, 3) := by decide +kernel
theorem dX5_atPlace_28 : decode cX5_atPlace 28 = .ok (.aconst_null, 1) := by decide +kernel
theorem dX5_atPlace_29 : decode cX5_atPlace 29 = .ok (.areturn, 1) := by decide +kernel
theorem dX5_addNew_0 : decode cX5_addNew 0 = .ok (.aload_n 0, 1) := by decide +kernel
theorem dX5_addNew_1 : decode cX5_addNew 1 = .ok (.getfield 17, 3) := by decide +kernel
theorem dX5_addNew_4 : decode cX5_addNew 4 = .ok (.istore 6, 2) := by decide +kernel
theorem dX5_addNew_6 : decode cX5_addNew 6 = .ok (.aload_n 0, 1) := by decide +kernel
theorem dX5_addNew_7 : decode cX5_addNew 7 = .ok (.dup, 1) := by decide +kernel
theorem dX5_addNew_8 : decode cX5_addNew 8 = .ok (.getfield 17, 3) := by decide +kernel
theorem dX5_addNew_11 : decode cX5_addNew 11 = .ok (.iconst 1, 1) := by decide +kernel
theorem dX5_addNew_12 : decode cX5_addNew 12 = .ok (.iadd, 1) := by decide +kernel
theorem dX5_addNew_13 : decode cX5_addNew 13 = .ok (.putfield 17, 3) := by decide +kernel
theorem dX5_addNew_16 : decode cX5_addNew 16 = .ok (.aload_n 0, 1) := by decide +kernel
theorem dX5_addNew_17 : decode cX5_addNew 17 = .ok (.new 9, 3) := by decide +kernel
theorem dX5_addNew_20 : decode cX5_addNew 20 = .ok (.dup, 1) := by decide +kernel
theorem dX5_addNew_21 : decode cX5_addNew 21 = .ok (.iload 6, 2) := by decide +kernel
theorem dX5_addNew_23 : decode cX5_addNew 23 = .ok (.iload_n 2, 1) := by decide +kernel
theorem dX5_addNew_24 : decode cX5_addNew 24 = .ok (.iload_n 3, 1) := by decide +kernel
theorem dX5_addNew_25 : decode cX5_addNew 25 = .ok (.iload 4, 2) := by decide +kernel
theorem dX5_addNew_27 : decode cX5_addNew 27 = .ok (.iload 5, 2) := by decide +kernel
theorem dX5_addNew_29 : decode cX5_addNew 29 = .ok (.invokespecial 32, 3) := by decide +kernel
theorem dX5_addNew_32 : decode cX5_addNew 32 = .ok (.iload_n 1, 1) := by decide +kernel
theorem dX5_addNew_33 : decode cX5_addNew 33 = .ok (.invokevirtual 35, 3) := by decide +kernel
theorem dX5_addNew_36 : decode cX5_addNew 36 = .ok (.iload 6, 2) := by decide +kernel
theorem dX5_addNew_38 : decode cX5_addNew 38 = .ok (.ireturn, 1) := by decide +kernel
theorem dX5_putInFront_0 : decode cX5_putInFront 0 = .ok (.iconst 0, 1) := by decide +kernel
theorem dX5_putInFront_1 : decode cX5_putInFront 1 = .ok (.istore_n 3, 1) := by decide +kernel
theorem dX5_putInFront_2 : decode cX5_putInFront 2 = .ok (.iload_n 3, 1) := by decide +kernel
theorem dX5_putInFront_3 : decode cX5_putInFront 3 = .ok (.aload_n 0, 1) := by decide +kernel
theorem dX5_putInFront_4 : decode cX5_putInFront 4 = .ok (.getfield 11, 3) := by decide +kernel
theorem dX5_putInFront_7 : decode cX5_putInFront 7 = .ok (.arraylength, 1) := by decide +kernel
theorem dX5_putInFront_8 : decode cX5_putInFront 8 = .ok (.if_icmp .ge 34, 3) := by decide +kernel
theorem dX5_putInFront_11 : decode cX5_putInFront 11 = .ok (.iload_n 3, 1) := by decide +kernel
theorem dX5_putInFront_12 : decode cX5_putInFront 12 = .ok (.bipush 8, 2) := by decide +kernel
theorem dX5_putInFront_14 : decode cX5_putInFront 14 = .ok (.idiv, 1) := by decide +kernel
theorem dX5_putInFront_15 : decode cX5_putInFront 15 = .ok (.iload_n 2, 1) := by decide +kernel
theorem dX5_putInFront_16 : decode cX5_putInFront 16 = .ok (.if_icmp .ne 20, 3) := by decide +kernel
theorem dX5_putInFront_19 : decode cX5_putInFront 19 = .ok (.aload_n 0, 1) := by decide +kernel
theorem dX5_putInFront_20 : decode cX5_putInFront 20 = .ok (.getfield 11, 3) := by decide +kernel
theorem dX5_putInFront_23 : decode cX5_putInFront 23 = .ok (.iload_n 3, 1) := by decide +kernel
theorem dX5_putInFront_24 : decode cX5_putInFront 24 = .ok (.aaload, 1) := by decide +kernel
theorem dX5_putInFront_25 : decode cX5_putInFront 25 = .ok (.ifnonnull 11, 3) := by decide +kernel
theorem dX5_putInFront_28 : decode cX5_putInFront 28 = .ok (.aload_n 0, 1) := by decide +kernel
theorem dX5_putInFront_29 : decode cX5_putInFront 29 = .ok (.getfield 11, 3) := by decide +kernel
theorem dX5_putInFront_32 : decode cX5_putInFront 32 = .ok (.iload_n 3, 1) := by decide +kernel
theorem dX5_putInFront_33 : decode cX5_putInFront 33 = .ok (.aload_n 1, 1) := by decide +kernel
theorem dX5_putInFront_34 : decode cX5_putInFront 34 = .ok (.aastore, 1) := by decide +kernel
theorem dX5_putInFront_35 : decode cX5_putInFront 35 = .ok (.return_, 1) := by decide +kernel
theorem dX5_putInFront_36 : decode cX5_putInFront 36 = .ok (.iinc 3 1, 3) := by decide +kernel
theorem dX5_putInFront_39 : decode cX5_putInFront 39 = .ok (.goto (-37), 3) := by decide +kernel
theorem dX5_putInFront_42 : decode cX5_putInFront 42 = .ok (.return_, 1) := by decide +kernel
theorem dX5_removeFrom_0 : decode cX5_removeFrom 0 = .ok (.iload_n 1, 1) := by decide +kernel
theorem dX5_removeFrom_1 : decode cX5_removeFrom 1 = .ok (.ifCond .ge 4, 3) := by decide +kernel
theorem dX5_removeFrom_4 : decode cX5_removeFrom 4 = .ok (.return_, 1) := by decide +kernel
theorem dX5_removeFrom_5 : decode cX5_removeFrom 5 = .ok (.iload_n 1, 1) := by decide +kernel
theorem dX5_removeFrom_6 : decode cX5_removeFrom 6 = .ok (.iload_n 1, 1) := by decide +kernel
theorem dX5_removeFrom_7 : decode cX5_removeFrom 7 = .ok (.bipush 8, 2) := by decide +kernel
theorem dX5_removeFrom_9 : decode cX5_removeFrom 9 = .ok (.irem, 1) := by decide +kernel
theorem dX5_removeFrom_10 : decode cX5_removeFrom 10 = .ok (.isub, 1) := by decide +kernel
theorem dX5_removeFrom_11 : decode cX5_removeFrom 11 = .ok (.bipush 8, 2) := by decide +kernel
theorem dX5_removeFrom_13 : decode cX5_removeFrom 13 = .ok (.iadd, 1) := by decide +kernel
theorem dX5_removeFrom_14 : decode cX5_removeFrom 14 = .ok (.iconst 1, 1) := by decide +kernel
theorem dX5_removeFrom_15 : decode cX5_removeFrom 15 = .ok (.isub, 1) := by decide +kernel
theorem dX5_removeFrom_16 : decode cX5_removeFrom 16 = .ok (.istore_n 2, 1) := by decide +kernel
theorem dX5_removeFrom_17 : decode cX5_removeFrom 17 = .ok (.iload_n 1, 1) := by decide +kernel
theorem dX5_removeFrom_18 : decode cX5_removeFrom 18 = .ok (.istore_n 3, 1) := by decide +kernel
theorem dX5_removeFrom_19 : decode cX5_removeFrom 19 = .ok (.iload_n 3, 1) := by decide +kernel
theorem dX5_removeFrom_20 : decode cX5_removeFrom 20 = .ok (.iload_n 2, 1) := by decide +kernel
theorem dX5_removeFrom_21 : decode cX5_removeFrom 21 = .ok (.if_icmp .gt 52, 3) := by decide +kernel
theorem dX5_removeFrom_24 : decode cX5_removeFrom 24 = .ok (.iload_n 3, 1) := by decide +kernel
theorem dX5_removeFrom_25 : decode cX5_removeFrom 25 = .ok (.aload_n 0, 1) := by decide +kernel
theorem dX5_removeFrom_26 : decode cX5_removeFrom 26 = .ok (.getfield 11, 3) := by decide +kernel
theorem dX5_removeFrom_29 : decode cX5_removeFrom 29 = .ok (.arraylength, 1) := by decide +kernel
theorem dX5_removeFrom_30 : decode cX5_removeFrom 30 = .ok (.if_icmp .ge 43, 3) := by decide +kernel
theorem dX5_removeFrom_33 : decode cX5_removeFrom 33 = .ok (.aload_n 0, 1) := by decide +kernel
theorem dX5_removeFrom_34 : decode cX5_removeFrom 34 = .ok (.getfield 11, 3) := by decide +kernel
theorem dX5_removeFrom_37 : decode cX5_removeFrom 37 = .ok (.iload_n 3, 1) := by decide +kernel
theorem dX5_removeFrom_38 : decode cX5_removeFrom 38 = .ok (.iload_n 3, 1) := by decide +kernel
theorem dX5_removeFrom_39 : decode cX5_removeFrom 39 = .ok (.iload_n 2, 1) := by decide +kernel
theorem dX5_removeFrom_40 : decode cX5_removeFrom 40 = .ok (.if_icmp .ge 25, 3) := by decide +kernel
theorem dX5_removeFrom_43 : decode cX5_removeFrom 43 = .ok (.iload_n 3, 1) := by decide +kernel
theorem dX5_removeFrom_44 : decode cX5_removeFrom 44 = .ok (.iconst 1, 1) := by decide +kernel
theorem dX5_removeFrom_45 : decode cX5_removeFrom 45 = .ok (.iadd, 1) := by decide +kernel
theorem dX5_removeFrom_46 : decode cX5_removeFrom 46 = .ok (.aload_n 0, 1) := by decide +kernel
theorem dX5_removeFrom_47 : decode cX5_removeFrom 47 = .ok (.getfield 11, 3) := by decide +kernel
theorem dX5_removeFrom_50 : decode cX5_removeFrom 50 = .ok (.arraylength, 1) := by decide +kernel
theorem dX5_removeFrom_51 : decode cX5_removeFrom 51 = .ok (.if_icmp .ge 14, 3) := by decide +kernel
theorem dX5_removeFrom_54 : decode cX5_removeFrom 54 = .ok (.aload_n 0, 1) := by decide +kernel
theorem dX5_removeFrom_55 : decode cX5_removeFrom 55 = .ok (.getfield 11, 3) := by decide +kernel
theorem dX5_removeFrom_58 : decode cX5_removeFrom 58 = .ok (.iload_n 3, 1) := by decide +kernel
theorem dX5_removeFrom_59 : decode cX5_removeFrom 59 = .ok (.iconst 1, 1) := by decide +kernel
theorem dX5_removeFrom_60 : decode cX5_removeFrom 60 = .ok (.iadd, 1) := by decide +kernel
theorem dX5_removeFrom_61 : decode cX5_removeFrom 61 = .ok (.aaload, 1) := by decide +kernel
theorem dX5_removeFrom_62 : decode cX5_removeFrom 62 = .ok (.goto 4, 3) := by decide +kernel
theorem dX5_removeFrom_65 : decode cX5_removeFrom 65 = .ok (.aconst_null, 1) := by decide +kernel
theorem dX5_removeFrom_66 : decode cX5_removeFrom 66 = .ok (.aastore, 1) := by decide +kernel
theorem dX5_removeFrom_67 : decode cX5_removeFrom 67 = .ok (.iinc 3 1, 3) := by decide +kernel
theorem dX5_removeFrom_70 : decode cX5_removeFrom 70 = .ok (.goto (-51), 3) := by decide +kernel
theorem dX5_removeFrom_73 : decode cX5_removeFrom 73 = .ok (.return_, 1) := by decide +kernel
theorem dX5_sheetsThere_0 : decode cX5_sheetsThere 0 = .ok (.iconst 0, 1) := by decide +kernel
theorem dX5_sheetsThere_1 : decode cX5_sheetsThere 1 = .ok (.istore_n 1, 1) := by decide +kernel
theorem dX5_sheetsThere_2 : decode cX5_sheetsThere 2 = .ok (.iconst 0, 1) := by decide +kernel
theorem dX5_sheetsThere_3 : decode cX5_sheetsThere 3 = .ok (.istore_n 2, 1) := by decide +kernel
theorem dX5_sheetsThere_4 : decode cX5_sheetsThere 4 = .ok (.iload_n 2, 1) := by decide +kernel
theorem dX5_sheetsThere_5 : decode cX5_sheetsThere 5 = .ok (.aload_n 0, 1) := by decide +kernel
theorem dX5_sheetsThere_6 : decode cX5_sheetsThere 6 = .ok (.getfield 11, 3) := by decide +kernel
theorem dX5_sheetsThere_9 : decode cX5_sheetsThere 9 = .ok (.arraylength, 1) := by decide +kernel
theorem dX5_sheetsThere_10 : decode cX5_sheetsThere 10 = .ok (.if_icmp .ge 21, 3) := by decide +kernel
theorem dX5_sheetsThere_13 : decode cX5_sheetsThere 13 = .ok (.aload_n 0, 1) := by decide +kernel
theorem dX5_sheetsThere_14 : decode cX5_sheetsThere 14 = .ok (.getfield 11, 3) := by decide +kernel
theorem dX5_sheetsThere_17 : decode cX5_sheetsThere 17 = .ok (.iload_n 2, 1) := by decide +kernel
theorem dX5_sheetsThere_18 : decode cX5_sheetsThere 18 = .ok (.aaload, 1) := by decide +kernel
theorem dX5_sheetsThere_19 : decode cX5_sheetsThere 19 = .ok (.ifnull 6, 3) := by decide +kernel
theorem dX5_sheetsThere_22 : decode cX5_sheetsThere 22 = .ok (.iinc 1 1, 3) := by decide +kernel
theorem dX5_sheetsThere_25 : decode cX5_sheetsThere 25 = .ok (.iinc 2 1, 3) := by decide +kernel
theorem dX5_sheetsThere_28 : decode cX5_sheetsThere 28 = .ok (.goto (-24), 3) := by decide +kernel
theorem dX5_sheetsThere_31 : decode cX5_sheetsThere 31 = .ok (.iload_n 1, 1) := by decide +kernel
theorem dX5_sheetsThere_32 : decode cX5_sheetsThere 32 = .ok (.ireturn, 1) := by decide +kernel
theorem dX5_areaThere_0 : decode cX5_areaThere 0 = .ok (.iconst 0, 1) := by decide +kernel
theorem dX5_areaThere_1 : decode cX5_areaThere 1 = .ok (.istore_n 1, 1) := by decide +kernel
theorem dX5_areaThere_2 : decode cX5_areaThere 2 = .ok (.iconst 0, 1) := by decide +kernel
theorem dX5_areaThere_3 : decode cX5_areaThere 3 = .ok (.istore_n 2, 1) := by decide +kernel
theorem dX5_areaThere_4 : decode cX5_areaThere 4 = .ok (.iload_n 2, 1) := by decide +kernel
theorem dX5_areaThere_5 : decode cX5_areaThere 5 = .ok (.aload_n 0, 1) := by decide +kernel
theorem dX5_areaThere_6 : decode cX5_areaThere 6 = .ok (.getfield 11, 3) := by decide +kernel
theorem dX5_areaThere_9 : decode cX5_areaThere 9 = .ok (.arraylength, 1) := by decide +kernel
theorem dX5_areaThere_10 : decode cX5_areaThere 10 = .ok (.if_icmp .ge 27, 3) := by decide +kernel
theorem dX5_areaThere_13 : decode cX5_areaThere 13 = .ok (.aload_n 0, 1) := by decide +kernel
theorem dX5_areaThere_14 : decode cX5_areaThere 14 = .ok (.getfield 11, 3) := by decide +kernel
theorem dX5_areaThere_17 : decode cX5_areaThere 17 = .ok (.iload_n 2, 1) := by decide +kernel
theorem dX5_areaThere_18 : decode cX5_areaThere 18 = .ok (.aaload, 1) := by decide +kernel
theorem dX5_areaThere_19 : decode cX5_areaThere 19 = .ok (.astore_n 3, 1) := by decide +kernel
theorem dX5_areaThere_20 : decode cX5_areaThere 20 = .ok (.aload_n 3, 1) := by decide +kernel
theorem dX5_areaThere_21 : decode cX5_areaThere 21 = .ok (.ifnull 10, 3) := by decide +kernel
theorem dX5_areaThere_24 : decode cX5_areaThere 24 = .ok (.iload_n 1, 1) := by decide +kernel
theorem dX5_areaThere_25 : decode cX5_areaThere 25 = .ok (.aload_n 3, 1) := by decide +kernel
theorem dX5_areaThere_26 : decode cX5_areaThere 26 = .ok (.invokevirtual 39, 3) := by decide +kernel
theorem dX5_areaThere_29 : decode cX5_areaThere 29 = .ok (.iadd, 1) := by decide +kernel
theorem dX5_areaThere_30 : decode cX5_areaThere 30 = .ok (.istore_n 1, 1) := by decide +kernel
theorem dX5_areaThere_31 : decode cX5_areaThere 31 = .ok (.iinc 2 1, 3) := by decide +kernel
theorem dX5_areaThere_34 : decode cX5_areaThere 34 = .ok (.goto (-30), 3) := by decide +kernel
theorem dX5_areaThere_37 : decode cX5_areaThere 37 = .ok (.iload_n 1, 1) := by decide +kernel
theorem dX5_areaThere_38 : decode cX5_areaThere 38 = .ok (.ireturn, 1) := by decide +kernel
theorem dX6_init_0 : decode cX6_init 0 = .ok (.aload_n 0, 1) := by decide +kernel
theorem dX6_init_1 : decode cX6_init 1 = .ok (.invokespecial 3, 3) := by decide +kernel
theorem dX6_init_4 : decode cX6_init 4 = .ok (.aload_n 0, 1) := by decide +kernel
theorem dX6_init_5 : decode cX6_init 5 = .ok (.iconst 1, 1) := by decide +kernel
theorem dX6_init_6 : decode cX6_init 6 = .ok (.putfield 9, 3) := by decide +kernel
theorem dX6_init_9 : decode cX6_init 9 = .ok (.aload_n 0, 1) := by decide +kernel
theorem dX6_init_10 : decode cX6_init 10 = .ok (.bipush 10, 2) := by decide +kernel
theorem dX6_init_12 : decode cX6_init 12 = .ok (.putfield 15, 3) := by decide +kernel
theorem dX6_init_15 : decode cX6_init 15 = .ok (.aload_n 0, 1) := by decide +kernel
theorem dX6_init_16 : decode cX6_init 16 = .ok (.iconst 0, 1) := by decide +kernel
theorem dX6_init_17 : decode cX6_init 17 = .ok (.putfield 18, 3) := by decide +kernel
theorem dX6_init_20 : decode cX6_init 20 = .ok (.aload_n 0, 1) := by decide +kernel
theorem dX6_init_21 : decode cX6_init 21 = .ok (.iconst 0, 1) := by decide +kernel
theorem dX6_init_22 : decode cX6_init 22 = .ok (.putfield 21, 3) := by decide +kernel
theorem dX6_init_25 : decode cX6_init 25 = .ok (.aload_n 0, 1) := by decide +kernel
theorem dX6_init_26 : decode cX6_init 26 = .ok (.iconst 1, 1) := by decide +kernel
theorem dX6_init_27 : decode cX6_init 27 = .ok (.putfield 24, 3) := by decide +kernel
theorem dX6_init_30 : decode cX6_init 30 = .ok (.return_, 1) := by decide +kernel
theorem dX6_copyFrom_0 : decode cX6_copyFrom 0 = .ok (.aload_n 0, 1) := by decide +kernel
theorem dX6_copyFrom_1 : decode cX6_copyFrom 1 = .ok (.aload_n 1, 1) := by decide +kernel
theorem dX6_copyFrom_2 : decode cX6_copyFrom 2 = .ok (.getfield 9, 3) := by decide +kernel
theorem dX6_copyFrom_5 : decode cX6_copyFrom 5 = .ok (.putfield 9, 3) := by decide +kernel
theorem dX6_copyFrom_8 : decode cX6_copyFrom 8 = .ok (.aload_n 0, 1) := by decide +kernel
theorem dX6_copyFrom_9 : decode cX6_copyFrom 9 = .ok (.aload_n 1, 1) := by decide +kernel
theorem dX6_copyFrom_10 : decode cX6_copyFrom 10 = .ok (.getfield 15, 3) := by decide +kernel
theorem dX6_copyFrom_13 : decode cX6_copyFrom 13 = .ok (.putfield 15, 3) := by decide +kernel
theorem dX6_copyFrom_16 : decode cX6_copyFrom 16 = .ok (.aload_n 0, 1) := by decide +kernel
theorem dX6_copyFrom_17 : decode cX6_copyFrom 17 = .ok (.aload_n 1, 1) := by decide +kernel
theorem dX6_copyFrom_18 : decode cX6_copyFrom 18 = .ok (.getfield 18, 3) := by decide +kernel
theorem dX6_copyFrom_21 : decode cX6_copyFrom 21 = .ok (.putfield 18, 3) := by decide +kernel
theorem dX6_copyFrom_24 : decode cX6_copyFrom 24 = .ok (.aload_n 0, 1) := by decide +kernel
theorem dX6_copyFrom_25 : decode cX6_copyFrom 25 = .ok (.aload_n 1, 1) := by decide +kernel
theorem dX6_copyFrom_26 : decode cX6_copyFrom 26 = .ok (.getfield 21, 3) := by decide +kernel
theorem dX6_copyFrom_29 : decode cX6_copyFrom 29 = .ok (.putfield 21, 3) := by decide +kernel
theorem dX6_copyFrom_32 : decode cX6_copyFrom 32 = .ok (.aload_n 0, 1) := by decide +kernel
theorem dX6_copyFrom_33 : decode cX6_copyFrom 33 = .ok (.aload_n 1, 1) := by decide +kernel
theorem dX6_copyFrom_34 : decode cX6_copyFrom 34 = .ok (.getfield 24, 3) := by decide +kernel
theorem dX6_copyFrom_37 : decode cX6_copyFrom 37 = .ok (.putfield 24, 3) := by decide +kernel
theorem dX6_copyFrom_40 : decode cX6_copyFrom 40 = .ok (.return_, 1) := by decide +kernel
theorem dX6_change_0 : decode cX6_change 0 = .ok (.iload_n 1, 1) := by decide +kernel
theorem dX6_change_1 : decode cX6_change 1 = .ok (.iload_n 2, 1) := by decide +kernel
theorem dX6_change_2 : decode cX6_change 2 = .ok (.invokestatic 27, 3) := by decide +kernel
theorem dX6_change_5 : decode cX6_change 5 = .ok (.ifCond .ne 6, 3) := by decide +kernel
theorem dX6_change_8 : decode cX6_change 8 = .ok (.bipush (-2), 2) := by decide +kernel
theorem dX6_change_10 : decode cX6_change 10 = .ok (.ireturn, 1) := by decide +kernel
theorem dX6_change_11 : decode cX6_change 11 = .ok (.aload_n 0, 1) := by decide +kernel
theorem dX6_change_12 : decode cX6_change 12 = .ok (.iload_n 1, 1) := by decide +kernel
theorem dX6_change_13 : decode cX6_change 13 = .ok (.invokevirtual 31, 3) := by decide +kernel
theorem dX6_change_16 : decode cX6_change 16 = .ok (.istore_n 3, 1) := by decide +kernel
theorem dX6_change_17 : decode cX6_change 17 = .ok (.iload_n 3, 1) := by decide +kernel
theorem dX6_change_18 : decode cX6_change 18 = .ok (.iload_n 2, 1) := by decide +kernel
theorem dX6_change_19 : decode cX6_change 19 = .ok (.if_icmp .ne 6, 3) := by decide +kernel
theorem dX6_change_22 : decode cX6_change 22 = .ok (.bipush (-5), 2) := by decide +kernel
theorem dX6_change_24 : decode cX6_change 24 = .ok (.ireturn, 1) := by decide +kernel
theorem dX6_change_25 : decode cX6_change 25 = .ok (.aload_n 0, 1) := by decide +kernel
theorem dX6_change_26 : decode cX6_change 26 = .ok (.iload_n 1, 1) := by decide +kernel
theorem dX6_change_27 : decode cX6_change 27 = .ok (.iload_n 2, 1) := by decide +kernel
theorem dX6_change_28 : decode cX6_change 28 = .ok (.invokevirtual 35, 3) := by decide +kernel
theorem dX6_change_31 : decode cX6_change 31 = .ok (.iload_n 3, 1) := by decide +kernel
theorem dX6_change_32 : decode cX6_change 32 = .ok (.ireturn, 1) := by decide +kernel
theorem dX6_value_0 : decode cX6_value 0 = .ok (.iload_n 1, 1) := by decide +kernel
theorem dX6_value_1 : decode cX6_value 1 = .ok (.tableswitch 60 0 4 #[35, 40, 45, 50, 55], 35) := by decide +kernel
theorem dX6_value_36 : decode cX6_value 36 = .ok (.aload_n 0, 1) := by decide +kernel
theorem dX6_value_37 : decode cX6_value 37 = .ok (.getfield 9, 3) := by decide +kernel
theorem dX6_value_40 : decode cX6_value 40 = .ok (.ireturn, 1) := by decide +kernel
theorem dX6_value_41 : decode cX6_value 41 = .ok (.aload_n 0, 1) := by decide +kernel
theorem dX6_value_42 : decode cX6_value 42 = .ok (.getfield 15, 3) := by decide +kernel
theorem dX6_value_45 : decode cX6_value 45 = .ok (.ireturn, 1) := by decide +kernel
theorem dX6_value_46 : decode cX6_value 46 = .ok (.aload_n 0, 1) := by decide +kernel
theorem dX6_value_47 : decode cX6_value 47 = .ok (.getfield 18, 3) := by decide +kernel
theorem dX6_value_50 : decode cX6_value 50 = .ok (.ireturn, 1) := by decide +kernel
theorem dX6_value_51 : decode cX6_value 51 = .ok (.aload_n 0, 1) := by decide +kernel
theorem dX6_value_52 : decode cX6_value 52 = .ok (.getfield 21, 3) := by decide +kernel
theorem dX6_value_55 : decode cX6_value 55 = .ok (.ireturn, 1) := by decide +kernel
theorem dX6_value_56 : decode cX6_value 56 = .ok (.aload_n 0, 1) := by decide +kernel
theorem dX6_value_57 : decode cX6_value 57 = .ok (.getfield 24, 3) := by decide +kernel
theorem dX6_value_60 : decode cX6_value 60 = .ok (.ireturn, 1) := by decide +kernel
theorem dX6_value_61 : decode cX6_value 61 = .ok (.bipush (-2), 2) := by decide +kernel
theorem dX6_value_63 : decode cX6_value 63 = .ok (.ireturn, 1) := by decide +kernel
theorem dX6_put_0 : decode cX6_put 0 = .ok (.iload_n 1, 1) := by decide +kernel
theorem dX6_put_1 : decode cX6_put 1 = .ok (.tableswitch 75 0 4 #[35, 43, 51, 59, 67], 35) := by decide +kernel
theorem dX6_put_36 : decode cX6_put 36 = .ok (.aload_n 0, 1) := by decide +kernel
theorem dX6_put_37 : decode cX6_put 37 = .ok (.iload_n 2, 1) := by decide +kernel
theorem dX6_put_38 : decode cX6_put 38 = .ok (.putfield 9, 3) := by decide +kernel
theorem dX6_put_41 : decode cX6_put 41 = .ok (.goto 35, 3) := by decide +kernel
theorem dX6_put_44 : decode cX6_put 44 = .ok (.aload_n 0, 1) := by decide +kernel
theorem dX6_put_45 : decode cX6_put 45 = .ok (.iload_n 2, 1) := by decide +kernel
theorem dX6_put_46 : decode cX6_put 46 = .ok (.putfield 15, 3) := by decide +kernel
theorem dX6_put_49 : decode cX6_put 49 = .ok (.goto 27, 3) := by decide +kernel
theorem dX6_put_52 : decode cX6_put 52 = .ok (.aload_n 0, 1) := by decide +kernel
theorem dX6_put_53 : decode cX6_put 53 = .ok (.iload_n 2, 1) := by decide +kernel
theorem dX6_put_54 : decode cX6_put 54 = .ok (.putfield 18, 3) := by decide +kernel
theorem dX6_put_57 : decode cX6_put 57 = .ok (.goto 19, 3) := by decide +kernel
theorem dX6_put_60 : decode cX6_put 60 = .ok (.aload_n 0, 1) := by decide +kernel
theorem dX6_put_61 : decode cX6_put 61 = .ok (.iload_n 2, 1) := by decide +kernel
theorem dX6_put_62 : decode cX6_put 62 = .ok (.putfield 21, 3) := by decide +kernel
theorem dX6_put_65 : decode cX6_put 65 = .ok (.goto 11, 3) := by decide +kernel
theorem dX6_put_68 : decode cX6_put 68 = .ok (.aload_n 0, 1) := by decide +kernel
theorem dX6_put_69 : decode cX6_put 69 = .ok (.iload_n 2, 1) := by decide +kernel
theorem dX6_put_70 : decode cX6_put 70 = .ok (.putfield 24, 3) := by decide +kernel
theorem dX6_put_73 : decode cX6_put 73 = .ok (.goto 3, 3) := by decide +kernel
theorem dX6_put_76 : decode cX6_put 76 = .ok (.return_, 1) := by decide +kernel
theorem dX6_isAllowed_0 : decode cX6_isAllowed 0 = .ok (.iload_n 0, 1) := by decide +kernel
theorem dX6_isAllowed_1 : decode cX6_isAllowed 1 = .ok (.tableswitch 101 0 4 #[35, 50, 55, 70, 86], 35) := by decide +kernel
theorem dX6_isAllowed_36 : decode cX6_isAllowed 36 = .ok (.iload_n 1, 1) := by decide +kernel
theorem dX6_isAllowed_37 : decode cX6_isAllowed 37 = .ok (.ifCond .lt 12, 3) := by decide +kernel
theorem dX6_isAllowed_40 : decode cX6_isAllowed 40 = .ok (.iload_n 1, 1) := by decide +kernel
theorem dX6_isAllowed_41 : decode cX6_isAllowed 41 = .ok (.iconst 5, 1) := by decide +kernel
theorem dX6_isAllowed_42 : decode cX6_isAllowed 42 = .ok (.if_icmp .gt 7, 3) := by decide +kernel
theorem dX6_isAllowed_45 : decode cX6_isAllowed 45 = .ok (.iconst 1, 1) := by decide +kernel
theorem dX6_isAllowed_46 : decode cX6_isAllowed 46 = .ok (.goto 4, 3) := by decide +kernel
theorem dX6_isAllowed_49 : decode cX6_isAllowed 49 = .ok (.iconst 0, 1) := by decide +kernel
theorem dX6_isAllowed_50 : decode cX6_isAllowed 50 = .ok (.ireturn, 1) := by decide +kernel
theorem dX6_isAllowed_51 : decode cX6_isAllowed 51 = .ok (.iload_n 1, 1) := by decide +kernel
theorem dX6_isAllowed_52 : decode cX6_isAllowed 52 = .ok (.invokestatic 39, 3) := by decide +kernel
theorem dX6_isAllowed_55 : decode cX6_isAllowed 55 = .ok (.ireturn, 1) := by decide +kernel
theorem dX6_isAllowed_56 : decode cX6_isAllowed 56 = .ok (.iload_n 1, 1) := by decide +kernel
theorem dX6_isAllowed_57 : decode cX6_isAllowed 57 = .ok (.ifCond .eq 8, 3) := by decide +kernel
theorem dX6_isAllowed_60 : decode cX6_isAllowed 60 = .ok (.iload_n 1, 1) := by decide +kernel
theorem dX6_isAllowed_61 : decode cX6_isAllowed 61 = .ok (.iconst 1, 1) := by decide +kernel
theorem dX6_isAllowed_62 : decode cX6_isAllowed 62 = .ok (.if_icmp .ne 7, 3) := by decide +kernel
theorem dX6_isAllowed_65 : decode cX6_isAllowed 65 = .ok (.iconst 1, 1) := by decide +kernel
theorem dX6_isAllowed_66 : decode cX6_isAllowed 66 = .ok (.goto 4, 3) := by decide +kernel
theorem dX6_isAllowed_69 : decode cX6_isAllowed 69 = .ok (.iconst 0, 1) := by decide +kernel
theorem dX6_isAllowed_70 : decode cX6_isAllowed 70 = .ok (.ireturn, 1) := by decide +kernel
theorem dX6_isAllowed_71 : decode cX6_isAllowed 71 = .ok (.iload_n 1, 1) := by decide +kernel
theorem dX6_isAllowed_72 : decode cX6_isAllowed 72 = .ok (.ifCond .lt 13, 3) := by decide +kernel
theorem dX6_isAllowed_75 : decode cX6_isAllowed 75 = .ok (.iload_n 1, 1) := by decide +kernel
theorem dX6_isAllowed_76 : decode cX6_isAllowed 76 = .ok (.bipush 50, 2) := by decide +kernel
theorem dX6_isAllowed_78 : decode cX6_isAllowed 78 = .ok (.if_icmp .gt 7, 3) := by decide +kernel
theorem dX6_isAllowed_81 : decode cX6_isAllowed 81 = .ok (.iconst 1, 1) := by decide +kernel
theorem dX6_isAllowed_82 : decode cX6_isAllowed 82 = .ok (.goto 4, 3) := by decide +kernel
theorem dX6_isAllowed_85 : decode cX6_isAllowed 85 = .ok (.iconst 0, 1) := by decide +kernel
theorem dX6_isAllowed_86 : decode cX6_isAllowed 86 = .ok (.ireturn, 1) := by decide +kernel
theorem dX6_isAllowed_87 : decode cX6_isAllowed 87 = .ok (.iload_n 1, 1) := by decide +kernel
theorem dX6_isAllowed_88 : decode cX6_isAllowed 88 = .ok (.ifCond .eq 8, 3) := by decide +kernel
theorem dX6_isAllowed_91 : decode cX6_isAllowed 91 = .ok (.iload_n 1, 1) := by decide +kernel
theorem dX6_isAllowed_92 : decode cX6_isAllowed 92 = .ok (.iconst 1, 1) := by decide +kernel
theorem dX6_isAllowed_93 : decode cX6_isAllowed 93 = .ok (.if_icmp .ne 7, 3) := by decide +kernel
theorem dX6_isAllowed_96 : decode cX6_isAllowed 96 = .ok (.iconst 1, 1) := by decide +kernel
theorem dX6_isAllowed_97 : decode cX6_isAllowed 97 = .ok (.goto 4, 3) := by decide +kernel
theorem dX6_isAllowed_100 : decode cX6_isAllowed 100 = .ok (.iconst 0, 1) := by decide +kernel
theorem dX6_isAllowed_101 : decode cX6_isAllowed 101 = .ok (.ireturn, 1) := by decide +kernel
theorem dX6_isAllowed_102 : decode cX6_isAllowed 102 = .ok (.iconst 0, 1) := by decide +kernel
theorem dX6_isAllowed_103 : decode cX6_isAllowed 103 = .ok (.ireturn, 1) := by decide +kernel
theorem dX7_init_0 : decode cX7_init 0 = .ok (.aload_n 0, 1) := by decide +kernel
theorem dX7_init_1 : decode cX7_init 1 = .ok (.invokespecial 1, 3) := by decide +kernel
theorem dX7_init_4 : decode cX7_init 4 = .ok (.aload_n 0, 1) := by decide +kernel
theorem dX7_init_5 : decode cX7_init 5 = .ok (.iload_n 1, 1) := by decide +kernel
theorem dX7_init_6 : decode cX7_init 6 = .ok (.putfield 7, 3) := by decide +kernel
theorem dX7_init_9 : decode cX7_init 9 = .ok (.aload_n 0, 1) := by decide +kernel
theorem dX7_init_10 : decode cX7_init 10 = .ok (.iload_n 2, 1) := by decide +kernel
theorem dX7_init_11 : decode cX7_init 11 = .ok (.putfield 13, 3) := by decide +kernel
theorem dX7_init_14 : decode cX7_init 14 = .ok (.aload_n 0, 1) := by decide +kernel
theorem dX7_init_15 : decode cX7_init 15 = .ok (.iload_n 3, 1) := by decide +kernel
theorem dX7_init_16 : decode cX7_init 16 = .ok (.putfield 16, 3) := by decide +kernel
theorem dX7_init_19 : decode cX7_init 19 = .ok (.aload_n 0, 1) := by decide +kernel
theorem dX7_init_20 : decode cX7_init 20 = .ok (.iload 4, 2) := by decide +kernel
theorem dX7_init_22 : decode cX7_init 22 = .ok (.putfield 19, 3) := by decide +kernel
theorem dX7_init_25 : decode cX7_init 25 = .ok (.aload_n 0, 1) := by decide +kernel
theorem dX7_init_26 : decode cX7_init 26 = .ok (.iload 5, 2) := by decide +kernel
theorem dX7_init_28 : decode cX7_init 28 = .ok (.putfield 22, 3) := by decide +kernel
theorem dX7_init_31 : decode cX7_init 31 = .ok (.return_, 1) := by decide +kernel
theorem dX7_area_0 : decode cX7_area 0 = .ok (.aload_n 0, 1) := by decide +kernel
theorem dX7_area_1 : decode cX7_area 1 = .ok (.getfield 16, 3) := by decide +kernel
theorem dX7_area_4 : decode cX7_area 4 = .ok (.aload_n 0, 1) := by decide +kernel
theorem dX7_area_5 : decode cX7_area 5 = .ok (.getfield 19, 3) := by decide +kernel
theorem dX7_area_8 : decode cX7_area 8 = .ok (.imul, 1) := by decide +kernel
theorem dX7_area_9 : decode cX7_area 9 = .ok (.ireturn, 1) := by decide +kernel
theorem dX8_init_0 : decode cX8_init 0 = .ok (.aload_n 0, 1) := by decide +kernel
theorem dX8_init_1 : decode cX8_init 1 = .ok (.invokespecial 3, 3) := by decide +kernel
theorem dX8_init_4 : decode cX8_init 4 = .ok (.aload_n 0, 1) := by decide +kernel
theorem dX8_init_5 : decode cX8_init 5 = .ok (.new 9, 3) := by decide +kernel
theorem dX8_init_8 : decode cX8_init 8 = .ok (.dup, 1) := by decide +kernel
theorem dX8_init_9 : decode cX8_init 9 = .ok (.invokespecial 11, 3) := by decide +kernel
theorem dX8_init_12 : decode cX8_init 12 = .ok (.putfield 12, 3) := by decide +kernel
theorem dX8_init_15 : decode cX8_init 15 = .ok (.aload_n 0, 1) := by decide +kernel
theorem dX8_init_16 : decode cX8_init 16 = .ok (.new 18, 3) := by decide +kernel
theorem dX8_init_19 : decode cX8_init 19 = .ok (.dup, 1) := by decide +kernel
theorem dX8_init_20 : decode cX8_init 20 = .ok (.invokespecial 20, 3) := by decide +kernel
theorem dX8_init_23 : decode cX8_init 23 = .ok (.putfield 21, 3) := by decide +kernel
theorem dX8_init_26 : decode cX8_init 26 = .ok (.aload_n 0, 1) := by decide +kernel
theorem dX8_init_27 : decode cX8_init 27 = .ok (.new 25, 3) := by decide +kernel
theorem dX8_init_30 : decode cX8_init 30 = .ok (.dup, 1) := by decide +kernel
theorem dX8_init_31 : decode cX8_init 31 = .ok (.invokespecial 27, 3) := by decide +kernel
theorem dX8_init_34 : decode cX8_init 34 = .ok (.putfield 28, 3) := by decide +kernel
theorem dX8_init_37 : decode cX8_init 37 = .ok (.aload_n 0, 1) := by decide +kernel
theorem dX8_init_38 : decode cX8_init 38 = .ok (.new 32, 3) := by decide +kernel
theorem dX8_init_41 : decode cX8_init 41 = .ok (.dup, 1) := by decide +kernel
theorem dX8_init_42 : decode cX8_init 42 = .ok (.invokespecial 34, 3) := by decide +kernel
theorem dX8_init_45 : decode cX8_init 45 = .ok (.putfield 35, 3) := by decide +kernel
theorem dX8_init_48 : decode cX8_init 48 = .ok (.aload_n 0, 1) := by decide +kernel
theorem dX8_init_49 : decode cX8_init 49 = .ok (.iconst 0, 1) := by decide +kernel
theorem dX8_init_50 : decode cX8_init 50 = .ok (.putfield 39, 3) := by decide +kernel
theorem dX8_init_53 : decode cX8_init 53 = .ok (.aload_n 0, 1) := by decide +kernel
theorem dX8_init_54 : decode cX8_init 54 = .ok (.iconst 0, 1) := by decide +kernel
theorem dX8_init_55 : decode cX8_init 55 = .ok (.putfield 43, 3) := by decide +kernel
theorem dX8_init_58 : decode cX8_init 58 = .ok (.aload_n 0, 1) := by decide +kernel
theorem dX8_init_59 : decode cX8_init 59 = .ok (.iconst 0, 1) := by decide +kernel
theorem dX8_init_60 : decode cX8_init 60 = .ok (.putfield 46, 3) := by decide +kernel
theorem dX8_init_63 : decode cX8_init 63 = .ok (.aload_n 0, 1) := by decide +kernel
theorem dX8_init_64 : decode cX8_init 64 = .ok (.iconst 0, 1) := by decide +kernel
theorem dX8_init_65 : decode cX8_init 65 = .ok (.putfield 49, 3) := by decide +kernel
theorem dX8_init_68 : decode cX8_init 68 = .ok (.aload_n 0, 1) := by decide +kernel
theorem dX8_init_69 : decode cX8_init 69 = .ok (.iconst 0, 1) := by decide +kernel
theorem dX8_init_70 : decode cX8_init 70 = .ok (.putfield 52, 3) := by decide +kernel
theorem dX8_init_73 : decode cX8_init 73 = .ok (.aload_n 0, 1) := by decide +kernel
theorem dX8_init_74 : decode cX8_init 74 = .ok (.iconst 0, 1) := by decide +kernel
theorem dX8_init_75 : decode cX8_init 75 = .ok (.putfield 55, 3) := by decide +kernel
theorem dX8_init_78 : decode cX8_init 78 = .ok (.aload_n 0, 1) := by decide +kernel
theorem dX8_init_79 : decode cX8_init 79 = .ok (.iconst 0, 1) := by decide +kernel
theorem dX8_init_80 : decode cX8_init 80 = .ok (.putfield 58, 3) := by decide +kernel
theorem dX8_init_83 : decode cX8_init 83 = .ok (.return_, 1) := by decide +kernel
theorem dX8_copyFrom_0 : decode cX8_copyFrom 0 = .ok (.aload_n 0, 1) := by decide +kernel
theorem dX8_copyFrom_1 : decode cX8_copyFrom 1 = .ok (.getfield 12, 3) := by decide +kernel
theorem dX8_copyFrom_4 : decode cX8_copyFrom 4 = .ok (.aload_n 1, 1) := by decide +kernel
theorem dX8_copyFrom_5 : decode cX8_copyFrom 5 = .ok (.getfield 12, 3) := by decide +kernel
theorem dX8_copyFrom_8 : decode cX8_copyFrom 8 = .ok (.invokevirtual 61, 3) := by decide +kernel
theorem dX8_copyFrom_11 : decode cX8_copyFrom 11 = .ok (.aload_n 0, 1) := by decide +kernel
theorem dX8_copyFrom_12 : decode cX8_copyFrom 12 = .ok (.getfield 21, 3) := by decide +kernel
theorem dX8_copyFrom_15 : decode cX8_copyFrom 15 = .ok (.aload_n 1, 1) := by decide +kernel
theorem dX8_copyFrom_16 : decode cX8_copyFrom 16 = .ok (.getfield 21, 3) := by decide +kernel
theorem dX8_copyFrom_19 : decode cX8_copyFrom 19 = .ok (.invokevirtual 65, 3) := by decide +kernel
theorem dX8_copyFrom_22 : decode cX8_copyFrom 22 = .ok (.aload_n 0, 1) := by decide +kernel
theorem dX8_copyFrom_23 : decode cX8_copyFrom 23 = .ok (.getfield 28, 3) := by decide +kernel
theorem dX8_copyFrom_26 : decode cX8_copyFrom 26 = .ok (.aload_n 1, 1) := by decide +kernel
theorem dX8_copyFrom_27 : decode cX8_copyFrom 27 = .ok (.getfield 28, 3) := by decide +kernel
theorem dX8_copyFrom_30 : decode cX8_copyFrom 30 = .ok (.invokevirtual 68, 3) := by decide +kernel
theorem dX8_copyFrom_33 : decode cX8_copyFrom 33 = .ok (.aload_n 0, 1) := by decide +kernel
theorem dX8_copyFrom_34 : decode cX8_copyFrom 34 = .ok (.aload_n 1, 1) := by decide +kernel
theorem dX8_copyFrom_35 : decode cX8_copyFrom 35 = .ok (.getfield 39, 3) := by decide +kernel
theorem dX8_copyFrom_38 : decode cX8_copyFrom 38 = .ok (.putfield 39, 3) := by decide +kernel
theorem dX8_copyFrom_41 : decode cX8_copyFrom 41 = .ok (.aload_n 0, 1) := by decide +kernel
theorem dX8_copyFrom_42 : decode cX8_copyFrom 42 = .ok (.aload_n 1, 1) := by decide +kernel
theorem dX8_copyFrom_43 : decode cX8_copyFrom 43 = .ok (.getfield 43, 3) := by decide +kernel
theorem dX8_copyFrom_46 : decode cX8_copyFrom 46 = .ok (.putfield 43, 3) := by decide +kernel
theorem dX8_copyFrom_49 : decode cX8_copyFrom 49 = .ok (.aload_n 0, 1) := by decide +kernel
theorem dX8_copyFrom_50 : decode cX8_copyFrom 50 = .ok (.aload_n 1, 1) := by decide +kernel
theorem dX8_copyFrom_51 : decode cX8_copyFrom 51 = .ok (.getfield 46, 3) := by decide +kernel
theorem dX8_copyFrom_54 : decode cX8_copyFrom 54 = .ok (.putfield 46, 3) := by decide +kernel
theorem dX8_copyFrom_57 : decode cX8_copyFrom 57 = .ok (.aload_n 0, 1) := by decide +kernel
theorem dX8_copyFrom_58 : decode cX8_copyFrom 58 = .ok (.aload_n 1, 1) := by decide +kernel
theorem dX8_copyFrom_59 : decode cX8_copyFrom 59 = .ok (.getfield 49, 3) := by decide +kernel
theorem dX8_copyFrom_62 : decode cX8_copyFrom 62 = .ok (.putfield 49, 3) := by decide +kernel
theorem dX8_copyFrom_65 : decode cX8_copyFrom 65 = .ok (.aload_n 0, 1) := by decide +kernel
theorem dX8_copyFrom_66 : decode cX8_copyFrom 66 = .ok (.aload_n 1, 1) := by decide +kernel
theorem dX8_copyFrom_67 : decode cX8_copyFrom 67 = .ok (.getfield 52, 3) := by decide +kernel
theorem dX8_copyFrom_70 : decode cX8_copyFrom 70 = .ok (.putfield 52, 3) := by decide +kernel
theorem dX8_copyFrom_73 : decode cX8_copyFrom 73 = .ok (.aload_n 0, 1) := by decide +kernel
theorem dX8_copyFrom_74 : decode cX8_copyFrom 74 = .ok (.aload_n 1, 1) := by decide +kernel
theorem dX8_copyFrom_75 : decode cX8_copyFrom 75 = .ok (.getfield 55, 3) := by decide +kernel
theorem dX8_copyFrom_78 : decode cX8_copyFrom 78 = .ok (.putfield 55, 3) := by decide +kernel
theorem dX8_copyFrom_81 : decode cX8_copyFrom 81 = .ok (.aload_n 0, 1) := by decide +kernel
theorem dX8_copyFrom_82 : decode cX8_copyFrom 82 = .ok (.aload_n 1, 1) := by decide +kernel
theorem dX8_copyFrom_83 : decode cX8_copyFrom 83 = .ok (.getfield 58, 3) := by decide +kernel
theorem dX8_copyFrom_86 : decode cX8_copyFrom 86 = .ok (.putfield 58, 3) := by decide +kernel
theorem dX8_copyFrom_89 : decode cX8_copyFrom 89 = .ok (.return_, 1) := by decide +kernel
theorem dX8_buySheet_0 : decode cX8_buySheet 0 = .ok (.iload_n 1, 1) := by decide +kernel
theorem dX8_buySheet_1 : decode cX8_buySheet 1 = .ok (.invokestatic 71, 3) := by decide +kernel
theorem dX8_buySheet_4 : decode cX8_buySheet 4 = .ok (.ifCond .eq 10, 3) := by decide +kernel
theorem dX8_buySheet_7 : decode cX8_buySheet 7 = .ok (.iload_n 2, 1) := by decide +kernel
theorem dX8_buySheet_8 : decode cX8_buySheet 8 = .ok (.invokestatic 75, 3) := by decide +kernel
theorem dX8_buySheet_11 : decode cX8_buySheet 11 = .ok (.ifCond .ne 5, 3) := by decide +kernel
theorem dX8_buySheet_14 : decode cX8_buySheet 14 = .ok (.iconst (-1), 1) := by decide +kernel
theorem dX8_buySheet_15 : decode cX8_buySheet 15 = .ok (.ireturn, 1) := by decide +kernel
theorem dX8_buySheet_16 : decode cX8_buySheet 16 = .ok (.iload_n 3, 1) := by decide +kernel
theorem dX8_buySheet_17 : decode cX8_buySheet 17 = .ok (.invokestatic 78, 3) := by decide +kernel
theorem dX8_buySheet_20 : decode cX8_buySheet 20 = .ok (.ifCond .eq 11, 3) := by decide +kernel
theorem dX8_buySheet_23 : decode cX8_buySheet 23 = .ok (.iload 4, 2) := by decide +kernel
theorem dX8_buySheet_25 : decode cX8_buySheet 25 = .ok (.invokestatic 78, 3) := by decide +kernel
theorem dX8_buySheet_28 : decode cX8_buySheet 28 = .ok (.ifCond .ne 6, 3) := by decide +kernel
theorem dX8_buySheet_31 : decode cX8_buySheet 31 = .ok (.bipush (-2), 2) := by decide +kernel
theorem dX8_buySheet_33 : decode cX8_buySheet 33 = .ok (.ireturn, 1) := by decide +kernel
theorem dX8_buySheet_34 : decode cX8_buySheet 34 = .ok (.aload_n 0, 1) := by decide +kernel
theorem dX8_buySheet_35 : decode cX8_buySheet 35 = .ok (.getfield 21, 3) := by decide +kernel
theorem dX8_buySheet_38 : decode cX8_buySheet 38 = .ok (.iload_n 1, 1) := by decide +kernel
theorem dX8_buySheet_39 : decode cX8_buySheet 39 = .ok (.invokevirtual 81, 3) := by decide +kernel
theorem dX8_buySheet_42 : decode cX8_buySheet 42 = .ok (.ifCond .ne 6, 3) := by decide +kernel
theorem dX8_buySheet_45 : decode cX8_buySheet 45 = .ok (.bipush (-3), 2) := by decide +kernel
theorem dX8_buySheet_47 : decode cX8_buySheet 47 = .ok (.ireturn, 1) := by decide +kernel
theorem dX8_buySheet_48 : decode cX8_buySheet 48 = .ok (.aload_n 0, 1) := by decide +kernel
theorem dX8_buySheet_49 : decode cX8_buySheet 49 = .ok (.dup, 1) := by decide +kernel
theorem dX8_buySheet_50 : decode cX8_buySheet 50 = .ok (.getfield 43, 3) := by decide +kernel
theorem dX8_buySheet_53 : decode cX8_buySheet 53 = .ok (.iload_n 3, 1) := by decide +kernel
theorem dX8_buySheet_54 : decode cX8_buySheet 54 = .ok (.iload 4, 2) := by decide +kernel
theorem dX8_buySheet_56 : decode cX8_buySheet 56 = .ok (.imul, 1) := by decide +kernel
theorem dX8_buySheet_57 : decode cX8_buySheet 57 = .ok (.iadd, 1) := by decide +kernel
theorem dX8_buySheet_58 : decode cX8_buySheet 58 = .ok (.putfield 43, 3) := by decide +kernel
theorem dX8_buySheet_61 : decode cX8_buySheet 61 = .ok (.aload_n 0, 1) := by decide +kernel
theorem dX8_buySheet_62 : decode cX8_buySheet 62 = .ok (.getfield 21, 3) := by decide +kernel
theorem dX8_buySheet_65 : decode cX8_buySheet 65 = .ok (.iload_n 1, 1) := by decide +kernel
theorem dX8_buySheet_66 : decode cX8_buySheet 66 = .ok (.iload_n 2, 1) := by decide +kernel
theorem dX8_buySheet_67 : decode cX8_buySheet 67 = .ok (.iload_n 3, 1) := by decide +kernel
theorem dX8_buySheet_68 : decode cX8_buySheet 68 = .ok (.iload 4, 2) := by decide +kernel
theorem dX8_buySheet_70 : decode cX8_buySheet 70 = .ok (.bipush (-5), 2) := by decide +kernel
theorem dX8_buySheet_72 : decode cX8_buySheet 72 = .ok (.invokevirtual 84, 3) := by decide +kernel
theorem dX8_buySheet_75 : decode cX8_buySheet 75 = .ok (.ireturn, 1) := by decide +kernel
theorem dX8_moveSheet_0 : decode cX8_moveSheet 0 = .ok (.aload_n 0, 1) := by decide +kernel
theorem dX8_moveSheet_1 : decode cX8_moveSheet 1 = .ok (.getfield 21, 3) := by decide +kernel
theorem dX8_moveSheet_4 : decode cX8_moveSheet 4 = .ok (.iload_n 1, 1) := by decide +kernel
theorem dX8_moveSheet_5 : decode cX8_moveSheet 5 = .ok (.invokevirtual 88, 3) := by decide +kernel
theorem dX8_moveSheet_8 : decode cX8_moveSheet 8 = .ok (.istore_n 3, 1) := by decide +kernel
theorem dX8_moveSheet_9 : decode cX8_moveSheet 9 = .ok (.aload_n 0, 1) := by decide +kernel
theorem dX8_moveSheet_10 : decode cX8_moveSheet 10 = .ok (.getfield 21, 3) := by decide +kernel
theorem dX8_moveSheet_13 : decode cX8_moveSheet 13 = .ok (.iload_n 3, 1) := by decide +kernel
theorem dX8_moveSheet_14 : decode cX8_moveSheet 14 = .ok (.invokevirtual 92, 3) := by decide +kernel
theorem dX8_moveSheet_17 : decode cX8_moveSheet 17 = .ok (.astore 4, 2) := by decide +kernel
theorem dX8_moveSheet_19 : decode cX8_moveSheet 19 = .ok (.aload 4, 2) := by decide +kernel
theorem dX8_moveSheet_21 : decode cX8_moveSheet 21 = .ok (.ifnull 10, 3) := by decide +kernel
theorem dX8_moveSheet_24 : decode cX8_moveSheet 24 = .ok (.iload_n 2, 1) := by decide +kernel
theorem dX8_moveSheet_25 : decode cX8_moveSheet 25 = .ok (.invokestatic 71, 3) := by decide +kernel
theorem dX8_moveSheet_28 : decode cX8_moveSheet 28 = .ok (.ifCond .ne 5, 3) := by decide +kernel
theorem dX8_moveSheet_31 : decode cX8_moveSheet 31 = .ok (.iconst (-1), 1) := by decide +kernel
theorem dX8_moveSheet_32 : decode cX8_moveSheet 32 = .ok (.ireturn, 1) := by decide +kernel
theorem dX8_moveSheet_33 : decode cX8_moveSheet 33 = .ok (.iload_n 3, 1) := by decide +kernel
theorem dX8_moveSheet_34 : decode cX8_moveSheet 34 = .ok (.bipush 8, 2) := by decide +kernel
theorem dX8_moveSheet_36 : decode cX8_moveSheet 36 = .ok (.idiv, 1) := by decide +kernel
theorem dX8_moveSheet_37 : decode cX8_moveSheet 37 = .ok (.iload_n 2, 1) := by decide +kernel
theorem dX8_moveSheet_38 : decode cX8_moveSheet 38 = .ok (.if_icmp .eq 17, 3) := by decide +kernel
theorem dX8_moveSheet_41 : decode cX8_moveSheet 41 = .ok (.aload_n 0, 1) := by decide +kernel
theorem dX8_moveSheet_42 : decode cX8_moveSheet 42 = .ok (.getfield 21, 3) := by decide +kernel
theorem dX8_moveSheet_45 : decode cX8_moveSheet 45 = .ok (.iload_n 2, 1) := by decide +kernel
theorem dX8_moveSheet_46 : decode cX8_moveSheet 46 = .ok (.invokevirtual 96, 3) := by decide +kernel
theorem dX8_moveSheet_49 : decode cX8_moveSheet 49 = .ok (.ifCond .eq 6, 3) := by decide +kernel
theorem dX8_moveSheet_52 : decode cX8_moveSheet 52 = .ok (.bipush (-3), 2) := by decide +kernel
theorem dX8_moveSheet_54 : decode cX8_moveSheet 54 = .ok (.ireturn, 1) := by decide +kernel
theorem dX8_moveSheet_55 : decode cX8_moveSheet 55 = .ok (.aload_n 0, 1) := by decide +kernel
theorem dX8_moveSheet_56 : decode cX8_moveSheet 56 = .ok (.getfield 21, 3) := by decide +kernel
theorem dX8_moveSheet_59 : decode cX8_moveSheet 59 = .ok (.iload_n 3, 1) := by decide +kernel
theorem dX8_moveSheet_60 : decode cX8_moveSheet 60 = .ok (.invokevirtual 99, 3) := by decide +kernel
theorem dX8_moveSheet_63 : decode cX8_moveSheet 63 = .ok (.iconst 1, 1) := by decide +kernel
theorem dX8_moveSheet_64 : decode cX8_moveSheet 64 = .ok (.iadd, 1) := by decide +kernel
theorem dX8_moveSheet_65 : decode cX8_moveSheet 65 = .ok (.istore 5, 2) := by decide +kernel
theorem dX8_moveSheet_67 : decode cX8_moveSheet 67 = .ok (.aload_n 0, 1) := by decide +kernel
theorem dX8_moveSheet_68 : decode cX8_moveSheet 68 = .ok (.iload_n 3, 1) := by decide +kernel
theorem dX8_moveSheet_69 : decode cX8_moveSheet 69 = .ok (.invokevirtual 102, 3) := by decide +kernel
theorem dX8_moveSheet_72 : decode cX8_moveSheet 72 = .ok (.ifCond .eq 13, 3) := by decide +kernel
theorem dX8_moveSheet_75 : decode cX8_moveSheet 75 = .ok (.aload_n 0, 1) := by decide +kernel
theorem dX8_moveSheet_76 : decode cX8_moveSheet 76 = .ok (.getfield 21, 3) := by decide +kernel
theorem dX8_moveSheet_79 : decode cX8_moveSheet 79 = .ok (.aload 4, 2) := by decide +kernel
theorem dX8_moveSheet_81 : decode cX8_moveSheet 81 = .ok (.iload_n 2, 1) := by decide +kernel
theorem dX8_moveSheet_82 : decode cX8_moveSheet 82 = .ok (.invokevirtual 105, 3) := by decide +kernel
theorem dX8_moveSheet_85 : decode cX8_moveSheet 85 = .ok (.iload 5, 2) := by decide +kernel
theorem dX8_moveSheet_87 : decode cX8_moveSheet 87 = .ok (.ireturn, 1) := by decide +kernel
theorem dX8_scrapSheet_0 : decode cX8_scrapSheet 0 = .ok (.aload_n 0, 1) := by decide +kernel
theorem dX8_scrapSheet_1 : decode cX8_scrapSheet 1 = .ok (.getfield 21, 3) := by decide +kernel
theorem dX8_scrapSheet_4 : decode cX8_scrapSheet 4 = .ok (.iload_n 1, 1) := by decide +kernel
theorem dX8_scrapSheet_5 : decode cX8_scrapSheet 5 = .ok (.invokevirtual 88, 3) := by decide +kernel
theorem dX8_scrapSheet_8 : decode cX8_scrapSheet 8 = .ok (.istore_n 2, 1) := by decide +kernel
theorem dX8_scrapSheet_9 : decode cX8_scrapSheet 9 = .ok (.aload_n 0, 1) := by decide +kernel
theorem dX8_scrapSheet_10 : decode cX8_scrapSheet 10 = .ok (.getfield 21, 3) := by decide +kernel
theorem dX8_scrapSheet_13 : decode cX8_scrapSheet 13 = .ok (.iload_n 2, 1) := by decide +kernel
theorem dX8_scrapSheet_14 : decode cX8_scrapSheet 14 = .ok (.invokevirtual 92, 3) := by decide +kernel
theorem dX8_scrapSheet_17 : decode cX8_scrapSheet 17 = .ok (.astore_n 3, 1) := by decide +kernel
theorem dX8_scrapSheet_18 : decode cX8_scrapSheet 18 = .ok (.aload_n 3, 1) := by decide +kernel
theorem dX8_scrapSheet_19 : decode cX8_scrapSheet 19 = .ok (.ifnonnull 5, 3) := by decide +kernel
theorem dX8_scrapSheet_22 : decode cX8_scrapSheet 22 = .ok (.iconst (-1), 1) := by decide +kernel
theorem dX8_scrapSheet_23 : decode cX8_scrapSheet 23 = .ok (.ireturn, 1) := by decide +kernel
theorem dX8_scrapSheet_24 : decode cX8_scrapSheet 24 = .ok (.aload_n 0, 1) := by decide +kernel
theorem dX8_scrapSheet_25 : decode cX8_scrapSheet 25 = .ok (.iload_n 2, 1) := by decide +kernel
theorem dX8_scrapSheet_26 : decode cX8_scrapSheet 26 = .ok (.invokevirtual 102, 3) := by decide +kernel
theorem dX8_scrapSheet_29 : decode cX8_scrapSheet 29 = .ok (.ifCond .eq 16, 3) := by decide +kernel
theorem dX8_scrapSheet_32 : decode cX8_scrapSheet 32 = .ok (.aload_n 0, 1) := by decide +kernel
theorem dX8_scrapSheet_33 : decode cX8_scrapSheet 33 = .ok (.dup, 1) := by decide +kernel
theorem dX8_scrapSheet_34 : decode cX8_scrapSheet 34 = .ok (.getfield 49, 3) := by decide +kernel
theorem dX8_scrapSheet_37 : decode cX8_scrapSheet 37 = .ok (.aload_n 3, 1) := by decide +kernel
theorem dX8_scrapSheet_38 : decode cX8_scrapSheet 38 = .ok (.invokevirtual 109, 3) := by decide +kernel
theorem dX8_scrapSheet_41 : decode cX8_scrapSheet 41 = .ok (.iadd, 1) := by decide +kernel
theorem dX8_scrapSheet_42 : decode cX8_scrapSheet 42 = .ok (.putfield 49, 3) := by decide +kernel
theorem dX8_scrapSheet_45 : decode cX8_scrapSheet 45 = .ok (.aload_n 3, 1) := by decide +kernel
theorem dX8_scrapSheet_46 : decode cX8_scrapSheet 46 = .ok (.invokevirtual 109, 3) := by decide +kernel
theorem dX8_scrapSheet_49 : decode cX8_scrapSheet 49 = .ok (.ireturn, 1) := by decide +kernel
theorem dX8_takeOrder_0 : decode cX8_takeOrder 0 = .ok (.iload_n 1, 1) := by decide +kernel
theorem dX8_takeOrder_1 : decode cX8_takeOrder 1 = .ok (.invokestatic 75, 3) := by decide +kernel
theorem dX8_takeOrder_4 : decode cX8_takeOrder 4 = .ok (.ifCond .ne 5, 3) := by decide +kernel
theorem dX8_takeOrder_7 : decode cX8_takeOrder 7 = .ok (.iconst (-1), 1) := by decide +kernel
theorem dX8_takeOrder_8 : decode cX8_takeOrder 8 = .ok (.ireturn, 1) := by decide +kernel
theorem dX8_takeOrder_9 : decode cX8_takeOrder 9 = .ok (.iload_n 2, 1) := by decide +kernel
theorem dX8_takeOrder_10 : decode cX8_takeOrder 10 = .ok (.invokestatic 78, 3) := by decide +kernel
theorem dX8_takeOrder_13 : decode cX8_takeOrder 13 = .ok (.ifCond .eq 23, 3) := by decide +kernel
theorem dX8_takeOrder_16 : decode cX8_takeOrder 16 = .ok (.iload_n 3, 1) := by decide +kernel
theorem dX8_takeOrder_17 : decode cX8_takeOrder 17 = .ok (.invokestatic 78, 3) := by decide +kernel
theorem dX8_takeOrder_20 : decode cX8_takeOrder 20 = .ok (.ifCond .eq 16, 3) := by decide +kernel
theorem dX8_takeOrder_23 : decode cX8_takeOrder 23 = .ok (.iload 4, 2) := by decide +kernel
theorem dX8_takeOrder_25 : decode cX8_takeOrder 25 = .ok (.ifCond .lt 11, 3) := by decide +kernel
theorem dX8_takeOrder_28 : decode cX8_takeOrder 28 = .ok (.iload 4, 2) := by decide +kernel
theorem dX8_takeOrder_30 : decode cX8_takeOrder 30 = .ok (.sipush 999, 3) := by decide +kernel
theorem dX8_takeOrder_33 : decode cX8_takeOrder 33 = .ok (.if_icmp .le 6, 3) := by decide +kernel
theorem dX8_takeOrder_36 : decode cX8_takeOrder 36 = .ok (.bipush (-2), 2) := by decide +kernel
theorem dX8_takeOrder_38 : decode cX8_takeOrder 38 = .ok (.ireturn, 1) := by decide +kernel
theorem dX8_takeOrder_39 : decode cX8_takeOrder 39 = .ok (.aload_n 0, 1) := by decide +kernel
theorem dX8_takeOrder_40 : decode cX8_takeOrder 40 = .ok (.getfield 28, 3) := by decide +kernel
theorem dX8_takeOrder_43 : decode cX8_takeOrder 43 = .ok (.invokevirtual 115, 3) := by decide +kernel
theorem dX8_takeOrder_46 : decode cX8_takeOrder 46 = .ok (.ifCond .eq 6, 3) := by decide +kernel
theorem dX8_takeOrder_49 : decode cX8_takeOrder 49 = .ok (.bipush (-3), 2) := by decide +kernel
theorem dX8_takeOrder_51 : decode cX8_takeOrder 51 = .ok (.ireturn, 1) := by decide +kernel
theorem dX8_takeOrder_52 : decode cX8_takeOrder 52 = .ok (.aload_n 0, 1) := by decide +kernel
theorem dX8_takeOrder_53 : decode cX8_takeOrder 53 = .ok (.getfield 28, 3) := by decide +kernel
theorem dX8_takeOrder_56 : decode cX8_takeOrder 56 = .ok (.iload_n 1, 1) := by decide +kernel
theorem dX8_takeOrder_57 : decode cX8_takeOrder 57 = .ok (.iload_n 2, 1) := by decide +kernel
theorem dX8_takeOrder_58 : decode cX8_takeOrder 58 = .ok (.iload_n 3, 1) := by decide +kernel
theorem dX8_takeOrder_59 : decode cX8_takeOrder 59 = .ok (.iload 4, 2) := by decide +kernel
theorem dX8_takeOrder_61 : decode cX8_takeOrder 61 = .ok (.invokevirtual 118, 3) := by decide +kernel
theorem dX8_takeOrder_64 : decode cX8_takeOrder 64 = .ok (.ireturn, 1) := by decide +kernel
theorem dX8_cancelOrder_0 : decode cX8_cancelOrder 0 = .ok (.aload_n 0, 1) := by decide +kernel
theorem dX8_cancelOrder_1 : decode cX8_cancelOrder 1 = .ok (.getfield 28, 3) := by decide +kernel
theorem dX8_cancelOrder_4 : decode cX8_cancelOrder 4 = .ok (.iload_n 1, 1) := by decide +kernel
theorem dX8_cancelOrder_5 : decode cX8_cancelOrder 5 = .ok (.invokevirtual 121, 3) := by decide +kernel
theorem dX8_cancelOrder_8 : decode cX8_cancelOrder 8 = .ok (.astore_n 2, 1) := by decide +kernel
theorem dX8_cancelOrder_9 : decode cX8_cancelOrder 9 = .ok (.aload_n 2, 1) := by decide +kernel
theorem dX8_cancelOrder_10 : decode cX8_cancelOrder 10 = .ok (.ifnonnull 5, 3) := by decide +kernel
theorem dX8_cancelOrder_13 : decode cX8_cancelOrder 13 = .ok (.iconst (-1), 1) := by decide +kernel
theorem dX8_cancelOrder_14 : decode cX8_cancelOrder 14 = .ok (.ireturn, 1) := by decide +kernel
theorem dX8_cancelOrder_15 : decode cX8_cancelOrder 15 = .ok (.aload_n 2, 1) := by decide +kernel
theorem dX8_cancelOrder_16 : decode cX8_cancelOrder 16 = .ok (.invokevirtual 125, 3) := by decide +kernel
theorem dX8_cancelOrder_19 : decode cX8_cancelOrder 19 = .ok (.ifCond .ne 6, 3) := by decide +kernel
theorem dX8_cancelOrder_22 : decode cX8_cancelOrder 22 = .ok (.bipush (-4), 2) := by decide +kernel
theorem dX8_cancelOrder_24 : decode cX8_cancelOrder 24 = .ok (.ireturn, 1) := by decide +kernel
theorem dX8_cancelOrder_25 : decode cX8_cancelOrder 25 = .ok (.aload_n 0, 1) := by decide +kernel
theorem dX8_cancelOrder_26 : decode cX8_cancelOrder 26 = .ok (.getfield 28, 3) := by decide +kernel
theorem dX8_cancelOrder_29 : decode cX8_cancelOrder 29 = .ok (.aload_n 2, 1) := by decide +kernel
theorem dX8_cancelOrder_30 : decode cX8_cancelOrder 30 = .ok (.invokevirtual 130, 3) := by decide +kernel
theorem dX8_cancelOrder_33 : decode cX8_cancelOrder 33 = .ok (.invokevirtual 134, 3) := by decide +kernel
theorem dX8_cancelOrder_36 : decode cX8_cancelOrder 36 = .ok (.aload_n 0, 1) := by decide +kernel
theorem dX8_cancelOrder_37 : decode cX8_cancelOrder 37 = .ok (.getfield 28, 3) := by decide +kernel
theorem dX8_cancelOrder_40 : decode cX8_cancelOrder 40 = .ok (.invokevirtual 138, 3) := by decide +kernel
theorem dX8_cancelOrder_43 : decode cX8_cancelOrder 43 = .ok (.ireturn, 1) := by decide +kernel
theorem dX8_cutOrder_0 : decode cX8_cutOrder 0 = .ok (.aload_n 0, 1) := by decide +kernel
theorem dX8_cutOrder_1 : decode cX8_cutOrder 1 = .ok (.getfield 28, 3) := by decide +kernel
theorem dX8_cutOrder_4 : decode cX8_cutOrder 4 = .ok (.iload_n 1, 1) := by decide +kernel
theorem dX8_cutOrder_5 : decode cX8_cutOrder 5 = .ok (.invokevirtual 121, 3) := by decide +kernel
theorem dX8_cutOrder_8 : decode cX8_cutOrder 8 = .ok (.astore_n 3, 1) := by decide +kernel
theorem dX8_cutOrder_9 : decode cX8_cutOrder 9 = .ok (.aload_n 0, 1) := by decide +kernel
theorem dX8_cutOrder_10 : decode cX8_cutOrder 10 = .ok (.getfield 21, 3) := by decide +kernel
theorem dX8_cutOrder_13 : decode cX8_cutOrder 13 = .ok (.aload_n 0, 1) := by decide +kernel
theorem dX8_cutOrder_14 : decode cX8_cutOrder 14 = .ok (.getfield 21, 3) := by decide +kernel
theorem dX8_cutOrder_17 : decode cX8_cutOrder 17 = .ok (.iload_n 2, 1) := by decide +kernel
theorem dX8_cutOrder_18 : decode cX8_cutOrder 18 = .ok (.invokevirtual 88, 3) := by decide +kernel
theorem dX8_cutOrder_21 : decode cX8_cutOrder 21 = .ok (.invokevirtual 92, 3) := by decide +kernel
theorem dX8_cutOrder_24 : decode cX8_cutOrder 24 = .ok (.astore 4, 2) := by decide +kernel
theorem dX8_cutOrder_26 : decode cX8_cutOrder 26 = .ok (.aload_n 3, 1) := by decide +kernel
theorem dX8_cutOrder_27 : decode cX8_cutOrder 27 = .ok (.ifnull 8, 3) := by decide +kernel
theorem dX8_cutOrder_30 : decode cX8_cutOrder 30 = .ok (.aload 4, 2) := by decide +kernel
theorem dX8_cutOrder_32 : decode cX8_cutOrder 32 = .ok (.ifnonnull 5, 3) := by decide +kernel
theorem dX8_cutOrder_35 : decode cX8_cutOrder 35 = .ok (.iconst (-1), 1) := by decide +kernel
theorem dX8_cutOrder_36 : decode cX8_cutOrder 36 = .ok (.ireturn, 1) := by decide +kernel
theorem dX8_cutOrder_37 : decode cX8_cutOrder 37 = .ok (.aload_n 3, 1) := by decide +kernel
theorem dX8_cutOrder_38 : decode cX8_cutOrder 38 = .ok (.invokevirtual 125, 3) := by decide +kernel
theorem dX8_cutOrder_41 : decode cX8_cutOrder 41 = .ok (.ifCond .eq 20, 3) := by decide +kernel
theorem dX8_cutOrder_44 : decode cX8_cutOrder 44 = .ok (.aload_n 0, 1) := by decide +kernel
theorem dX8_cutOrder_45 : decode cX8_cutOrder 45 = .ok (.getfield 35, 3) := by decide +kernel
theorem dX8_cutOrder_48 : decode cX8_cutOrder 48 = .ok (.aload_n 3, 1) := by decide +kernel
theorem dX8_cutOrder_49 : decode cX8_cutOrder 49 = .ok (.aload 4, 2) := by decide +kernel
theorem dX8_cutOrder_51 : decode cX8_cutOrder 51 = .ok (.aload_n 0, 1) := by decide +kernel
theorem dX8_cutOrder_52 : decode cX8_cutOrder 52 = .ok (.getfield 12, 3) := by decide +kernel
theorem dX8_cutOrder_55 : decode cX8_cutOrder 55 = .ok (.invokevirtual 141, 3) := by decide +kernel
theorem dX8_cutOrder_58 : decode cX8_cutOrder 58 = .ok (.ifCond .ne 6, 3) := by decide +kernel
theorem dX8_cutOrder_61 : decode cX8_cutOrder 61 = .ok (.bipush (-4), 2) := by decide +kernel
theorem dX8_cutOrder_63 : decode cX8_cutOrder 63 = .ok (.ireturn, 1) := by decide +kernel
theorem dX8_cutOrder_64 : decode cX8_cutOrder 64 = .ok (.aload_n 0, 1) := by decide +kernel
theorem dX8_cutOrder_65 : decode cX8_cutOrder 65 = .ok (.aload_n 3, 1) := by decide +kernel
theorem dX8_cutOrder_66 : decode cX8_cutOrder 66 = .ok (.aload 4, 2) := by decide +kernel
theorem dX8_cutOrder_68 : decode cX8_cutOrder 68 = .ok (.invokevirtual 145, 3) := by decide +kernel
theorem dX8_cutOrder_71 : decode cX8_cutOrder 71 = .ok (.ireturn, 1) := by decide +kernel
theorem dX8_planDay_0 : decode cX8_planDay 0 = .ok (.iload_n 1, 1) := by decide +kernel
theorem dX8_planDay_1 : decode cX8_planDay 1 = .ok (.invokestatic 149, 3) := by decide +kernel
theorem dX8_planDay_4 : decode cX8_planDay 4 = .ok (.ifCond .ne 6, 3) := by decide +kernel
theorem dX8_planDay_7 : decode cX8_planDay 7 = .ok (.bipush (-2), 2) := by decide +kernel
theorem dX8_planDay_9 : decode cX8_planDay 9 = .ok (.ireturn, 1) := by decide +kernel
theorem dX8_planDay_10 : decode cX8_planDay 10 = .ok (.aload_n 0, 1) := by decide +kernel
theorem dX8_planDay_11 : decode cX8_planDay 11 = .ok (.getfield 28, 3) := by decide +kernel
theorem dX8_planDay_14 : decode cX8_planDay 14 = .ok (.aconst_null, 1) := by decide +kernel
theorem dX8_planDay_15 : decode cX8_planDay 15 = .ok (.invokevirtual 152, 3) := by decide +kernel
theorem dX8_planDay_18 : decode cX8_planDay 18 = .ok (.astore_n 2, 1) := by decide +kernel
theorem dX8_planDay_19 : decode cX8_planDay 19 = .ok (.aload_n 2, 1) := by decide +kernel
theorem dX8_planDay_20 : decode cX8_planDay 20 = .ok (.ifnonnull 6, 3) := by decide +kernel
theorem dX8_planDay_23 : decode cX8_planDay 23 = .ok (.bipush (-5), 2) := by decide +kernel
theorem dX8_planDay_25 : decode cX8_planDay 25 = .ok (.ireturn, 1) := by decide +kernel
theorem dX8_planDay_26 : decode cX8_planDay 26 = .ok (.iconst 0, 1) := by decide +kernel
theorem dX8_planDay_27 : decode cX8_planDay 27 = .ok (.istore_n 3, 1) := by decide +kernel
theorem dX8_planDay_28 : decode cX8_planDay 28 = .ok (.iconst 0, 1) := by decide +kernel
theorem dX8_planDay_29 : decode cX8_planDay 29 = .ok (.istore 4, 2) := by decide +kernel
theorem dX8_planDay_31 : decode cX8_planDay 31 = .ok (.iload 4, 2) := by decide +kernel
theorem dX8_planDay_33 : decode cX8_planDay 33 = .ok (.bipush 12, 2) := by decide +kernel
theorem dX8_planDay_35 : decode cX8_planDay 35 = .ok (.if_icmp .ge 50, 3) := by decide +kernel
theorem dX8_planDay_38 : decode cX8_planDay 38 = .ok (.aload_n 2, 1) := by decide +kernel
theorem dX8_planDay_39 : decode cX8_planDay 39 = .ok (.ifnull 46, 3) := by decide +kernel
theorem dX8_planDay_42 : decode cX8_planDay 42 = .ok (.aload_n 0, 1) := by decide +kernel
theorem dX8_planDay_43 : decode cX8_planDay 43 = .ok (.aload_n 2, 1) := by decide +kernel
theorem dX8_planDay_44 : decode cX8_planDay 44 = .ok (.iload_n 1, 1) := by decide +kernel
theorem dX8_planDay_45 : decode cX8_planDay 45 = .ok (.invokevirtual 156, 3) := by decide +kernel
theorem dX8_planDay_48 : decode cX8_planDay 48 = .ok (.astore 5, 2) := by decide +kernel
theorem dX8_planDay_50 : decode cX8_planDay 50 = .ok (.aload 5, 2) := by decide +kernel
theorem dX8_planDay_52 : decode cX8_planDay 52 = .ok (.ifnull 18, 3) := by decide +kernel
theorem dX8_planDay_55 : decode cX8_planDay 55 = .ok (.aload_n 0, 1) := by decide +kernel
theorem dX8_planDay_56 : decode cX8_planDay 56 = .ok (.aload_n 2, 1) := by decide +kernel
theorem dX8_planDay_57 : decode cX8_planDay 57 = .ok (.aload 5, 2) := by decide +kernel
theorem dX8_planDay_59 : decode cX8_planDay 59 = .ok (.invokevirtual 145, 3) := by decide +kernel
theorem dX8_planDay_62 : decode cX8_planDay 62 = .ok (.bipush 10, 2) := by decide +kernel
theorem dX8_planDay_64 : decode cX8_planDay 64 = .ok (.if_icmp .eq 6, 3) := by decide +kernel
theorem dX8_planDay_67 : decode cX8_planDay 67 = .ok (.iinc 3 1, 3) := by decide +kernel
theorem dX8_planDay_70 : decode cX8_planDay 70 = .ok (.aload_n 0, 1) := by decide +kernel
theorem dX8_planDay_71 : decode cX8_planDay 71 = .ok (.getfield 28, 3) := by decide +kernel
theorem dX8_planDay_74 : decode cX8_planDay 74 = .ok (.aload_n 2, 1) := by decide +kernel
theorem dX8_planDay_75 : decode cX8_planDay 75 = .ok (.invokevirtual 152, 3) := by decide +kernel
theorem dX8_planDay_78 : decode cX8_planDay 78 = .ok (.astore_n 2, 1) := by decide +kernel
theorem dX8_planDay_79 : decode cX8_planDay 79 = .ok (.iinc 4 1, 3) := by decide +kernel
theorem dX8_planDay_82 : decode cX8_planDay 82 = .ok (.goto (-51), 3) := by decide +kernel
theorem dX8_planDay_85 : decode cX8_planDay 85 = .ok (.iload_n 3, 1) := by decide +kernel
theorem dX8_planDay_86 : decode cX8_planDay 86 = .ok (.ireturn, 1) := by decide +kernel
theorem dX8_passDays_0 : decode cX8_passDays 0 = .ok (.iload_n 1, 1) := by decide +kernel
theorem dX8_passDays_1 : decode cX8_passDays 1 = .ok (.iconst 1, 1) := by decide +kernel
theorem dX8_passDays_2 : decode cX8_passDays 2 = .ok (.if_icmp .lt 9, 3) := by decide +kernel
theorem dX8_passDays_5 : decode cX8_passDays 5 = .ok (.iload_n 1, 1) := by decide +kernel
theorem dX8_passDays_6 : decode cX8_passDays 6 = .ok (.bipush 99, 2) := by decide +kernel
theorem dX8_passDays_8 : decode cX8_passDays 8 = .ok (.if_icmp .le 6, 3) := by decide +kernel
theorem dX8_passDays_11 : decode cX8_passDays 11 = .ok (.bipush (-2), 2) := by decide +kernel
theorem dX8_passDays_13 : decode cX8_passDays 13 = .ok (.ireturn, 1) := by decide +kernel
theorem dX8_passDays_14 : decode cX8_passDays 14 = .ok (.aload_n 0, 1) := by decide +kernel
theorem dX8_passDays_15 : decode cX8_passDays 15 = .ok (.getfield 39, 3) := by decide +kernel
theorem dX8_passDays_18 : decode cX8_passDays 18 = .ok (.iload_n 1, 1) := by decide +kernel
theorem dX8_passDays_19 : decode cX8_passDays 19 = .ok (.iadd, 1) := by decide +kernel
theorem dX8_passDays_20 : decode cX8_passDays 20 = .ok (.sipush 999, 3) := by decide +kernel
theorem dX8_passDays_23 : decode cX8_passDays 23 = .ok (.if_icmp .le 6, 3) := by decide +kernel
theorem dX8_passDays_26 : decode cX8_passDays 26 = .ok (.bipush (-3), 2) := by decide +kernel
theorem dX8_passDays_28 : decode cX8_passDays 28 = .ok (.ireturn, 1) := by decide +kernel
theorem dX8_passDays_29 : decode cX8_passDays 29 = .ok (.aload_n 0, 1) := by decide +kernel
theorem dX8_passDays_30 : decode cX8_passDays 30 = .ok (.getfield 28, 3) := by decide +kernel
theorem dX8_passDays_33 : decode cX8_passDays 33 = .ok (.aload_n 0, 1) := by decide +kernel
theorem dX8_passDays_34 : decode cX8_passDays 34 = .ok (.getfield 39, 3) := by decide +kernel
theorem dX8_passDays_37 : decode cX8_passDays 37 = .ok (.invokevirtual 160, 3) := by decide +kernel
theorem dX8_passDays_40 : decode cX8_passDays 40 = .ok (.istore_n 2, 1) := by decide +kernel
theorem dX8_passDays_41 : decode cX8_passDays 41 = .ok (.aload_n 0, 1) := by decide +kernel
theorem dX8_passDays_42 : decode cX8_passDays 42 = .ok (.dup, 1) := by decide +kernel
theorem dX8_passDays_43 : decode cX8_passDays 43 = .ok (.getfield 39, 3) := by decide +kernel
theorem dX8_passDays_46 : decode cX8_passDays 46 = .ok (.iload_n 1, 1) := by decide +kernel
theorem dX8_passDays_47 : decode cX8_passDays 47 = .ok (.iadd, 1) := by decide +kernel
theorem dX8_passDays_48 : decode cX8_passDays 48 = .ok (.putfield 39, 3) := by decide +kernel
theorem dX8_passDays_51 : decode cX8_passDays 51 = .ok (.aload_n 0, 1) := by decide +kernel
theorem dX8_passDays_52 : decode cX8_passDays 52 = .ok (.getfield 28, 3) := by decide +kernel
theorem dX8_passDays_55 : decode cX8_passDays 55 = .ok (.aload_n 0, 1) := by decide +kernel
theorem dX8_passDays_56 : decode cX8_passDays 56 = .ok (.getfield 39, 3) := by decide +kernel
theorem dX8_passDays_59 : decode cX8_passDays 59 = .ok (.invokevirtual 160, 3) := by decide +kernel
theorem dX8_passDays_62 : decode cX8_passDays 62 = .ok (.iload_n 2, 1) := by decide +kernel
theorem dX8_passDays_63 : decode cX8_passDays 63 = .ok (.isub, 1) := by decide +kernel
theorem dX8_passDays_64 : decode cX8_passDays 64 = .ok (.ireturn, 1) := by decide +kernel
theorem dX8_chosenSheet_0 : decode cX8_chosenSheet 0 = .ok (.aconst_null, 1) := by decide +kernel
theorem dX8_chosenSheet_1 : decode cX8_chosenSheet 1 = .ok (.astore_n 3, 1) := by decide +kernel
theorem dX8_chosenSheet_2 : decode cX8_chosenSheet 2 = .ok (.iconst 0, 1) := by decide +kernel
theorem dX8_chosenSheet_3 : decode cX8_chosenSheet 3 = .ok (.istore 4, 2) := by decide +kernel
theorem dX8_chosenSheet_5 : decode cX8_chosenSheet 5 = .ok (.iconst 0, 1) := by decide +kernel
theorem dX8_chosenSheet_6 : decode cX8_chosenSheet 6 = .ok (.istore 5, 2) := by decide +kernel
theorem dX8_chosenSheet_8 : decode cX8_chosenSheet 8 = .ok (.iload 5, 2) := by decide +kernel
theorem dX8_chosenSheet_10 : decode cX8_chosenSheet 10 = .ok (.bipush 32, 2) := by decide +kernel
theorem dX8_chosenSheet_12 : decode cX8_chosenSheet 12 = .ok (.if_icmp .ge 90, 3) := by decide +kernel
theorem dX8_chosenSheet_15 : decode cX8_chosenSheet 15 = .ok (.aload_n 0, 1) := by decide +kernel
theorem dX8_chosenSheet_16 : decode cX8_chosenSheet 16 = .ok (.getfield 21, 3) := by decide +kernel
theorem dX8_chosenSheet_19 : decode cX8_chosenSheet 19 = .ok (.iload 5, 2) := by decide +kernel
theorem dX8_chosenSheet_21 : decode cX8_chosenSheet 21 = .ok (.invokevirtual 92, 3) := by decide +kernel
theorem dX8_chosenSheet_24 : decode cX8_chosenSheet 24 = .ok (.astore 6, 2) := by decide +kernel
theorem dX8_chosenSheet_26 : decode cX8_chosenSheet 26 = .ok (.aload 6, 2) := by decide +kernel
theorem dX8_chosenSheet_28 : decode cX8_chosenSheet 28 = .ok (.ifnull 68, 3) := by decide +kernel
theorem dX8_chosenSheet_31 : decode cX8_chosenSheet 31 = .ok (.aload_n 0, 1) := by decide +kernel
theorem dX8_chosenSheet_32 : decode cX8_chosenSheet 32 = .ok (.getfield 35, 3) := by decide +kernel
theorem dX8_chosenSheet_35 : decode cX8_chosenSheet 35 = .ok (.aload_n 1, 1) := by decide +kernel
theorem dX8_chosenSheet_36 : decode cX8_chosenSheet 36 = .ok (.aload 6, 2) := by decide +kernel
theorem dX8_chosenSheet_38 : decode cX8_chosenSheet 38 = .ok (.aload_n 0, 1) := by decide +kernel
theorem dX8_chosenSheet_39 : decode cX8_chosenSheet 39 = .ok (.getfield 12, 3) := by decide +kernel
theorem dX8_chosenSheet_42 : decode cX8_chosenSheet 42 = .ok (.invokevirtual 141, 3) := by decide +kernel
theorem dX8_chosenSheet_45 : decode cX8_chosenSheet 45 = .ok (.ifCond .eq 51, 3) := by decide +kernel
theorem dX8_chosenSheet_48 : decode cX8_chosenSheet 48 = .ok (.aload_n 0, 1) := by decide +kernel
theorem dX8_chosenSheet_49 : decode cX8_chosenSheet 49 = .ok (.aload 6, 2) := by decide +kernel
theorem dX8_chosenSheet_51 : decode cX8_chosenSheet 51 = .ok (.iload 5, 2) := by decide +kernel
theorem dX8_chosenSheet_53 : decode cX8_chosenSheet 53 = .ok (.iload_n 2, 1) := by decide +kernel
theorem dX8_chosenSheet_54 : decode cX8_chosenSheet 54 = .ok (.invokevirtual 163, 3) := by decide +kernel
theorem dX8_chosenSheet_57 : decode cX8_chosenSheet 57 = .ok (.istore 7, 2) := by decide +kernel
theorem dX8_chosenSheet_59 : decode cX8_chosenSheet 59 = .ok (.aload_n 3, 1) := by decide +kernel
theorem dX8_chosenSheet_60 : decode cX8_chosenSheet 60 = .ok (.ifnull 29, 3) := by decide +kernel
theorem dX8_chosenSheet_63 : decode cX8_chosenSheet 63 = .ok (.iload 7, 2) := by decide +kernel
theorem dX8_chosenSheet_65 : decode cX8_chosenSheet 65 = .ok (.iload 4, 2) := by decide +kernel
theorem dX8_chosenSheet_67 : decode cX8_chosenSheet 67 = .ok (.if_icmp .lt 22, 3) := by decide +kernel
theorem dX8_chosenSheet_70 : decode cX8_chosenSheet 70 = .ok (.iload 7, 2) := by decide +kernel
theorem dX8_chosenSheet_72 : decode cX8_chosenSheet 72 = .ok (.iload 4, 2) := by decide +kernel
theorem dX8_chosenSheet_74 : decode cX8_chosenSheet 74 = .ok (.if_icmp .ne 22, 3) := by decide +kernel
theorem dX8_chosenSheet_77 : decode cX8_chosenSheet 77 = .ok (.aload 6, 2) := by decide +kernel
theorem dX8_chosenSheet_79 : decode cX8_chosenSheet 79 = .ok (.getfield 167, 3) := by decide +kernel
theorem dX8_chosenSheet_82 : decode cX8_chosenSheet 82 = .ok (.aload_n 3, 1) := by decide +kernel
theorem dX8_chosenSheet_83 : decode cX8_chosenSheet 83 = .ok (.getfield 167, 3) := by decide +kernel
theorem dX8_chosenSheet_86 : decode cX8_chosenSheet 86 = .ok (.if_icmp .ge 10, 3) := by decide +kernel
theorem dX8_chosenSheet_89 : decode cX8_chosenSheet 89 = .ok (.aload 6, 2) := by decide +kernel
theorem dX8_chosenSheet_91 : decode cX8_chosenSheet 91 = .ok (.astore_n 3, 1) := by decide +kernel
theorem dX8_chosenSheet_92 : decode cX8_chosenSheet 92 = .ok (.iload 7, 2) := by decide +kernel
theorem dX8_chosenSheet_94 : decode cX8_chosenSheet 94 = .ok (.istore 4, 2) := by decide +kernel
theorem dX8_chosenSheet_96 : decode cX8_chosenSheet 96 = .ok (.iinc 5 1, 3) := by decide +kernel
theorem dX8_chosenSheet_99 : decode cX8_chosenSheet 99 = .ok (.goto (-91), 3) := by decide +kernel
theorem dX8_chosenSheet_102 : decode cX8_chosenSheet 102 = .ok (.aload_n 3, 1) := by decide +kernel
theorem dX8_chosenSheet_103 : decode cX8_chosenSheet 103 = .ok (.areturn, 1) := by decide +kernel
theorem dX8_measureOf_0 : decode cX8_measureOf 0 = .ok (.iload_n 3, 1) := by decide +kernel
theorem dX8_measureOf_1 : decode cX8_measureOf 1 = .ok (.lookupswitch 41 #[(0, 27), (1, 32)], 27) := by decide +kernel
theorem dX8_measureOf_28 : decode cX8_measureOf 28 = .ok (.aload_n 1, 1) := by decide +kernel
theorem dX8_measureOf_29 : decode cX8_measureOf 29 = .ok (.invokevirtual 109, 3) := by decide +kernel
theorem dX8_measureOf_32 : decode cX8_measureOf 32 = .ok (.ireturn, 1) := by decide +kernel
theorem dX8_measureOf_33 : decode cX8_measureOf 33 = .ok (.aload_n 0, 1) := by decide +kernel
theorem dX8_measureOf_34 : decode cX8_measureOf 34 = .ok (.getfield 21, 3) := by decide +kernel
theorem dX8_measureOf_37 : decode cX8_measureOf 37 = .ok (.iload_n 2, 1) := by decide +kernel
theorem dX8_measureOf_38 : decode cX8_measureOf 38 = .ok (.invokevirtual 99, 3) := by decide +kernel
theorem dX8_measureOf_41 : decode cX8_measureOf 41 = .ok (.ireturn, 1) := by decide +kernel
theorem dX8_measureOf_42 : decode cX8_measureOf 42 = .ok (.aload_n 0, 1) := by decide +kernel
theorem dX8_measureOf_43 : decode cX8_measureOf 43 = .ok (.getfield 35, 3) := by decide +kernel
theorem dX8_measureOf_46 : decode cX8_measureOf 46 = .ok (.getfield 170, 3) := by decide +kernel
theorem dX8_measureOf_49 : decode cX8_measureOf 49 = .ok (.ireturn, 1) := by decide +kernel
theorem dX8_cutOpenOrder_0 : decode cX8_cutOpenOrder 0 = .ok (.aload_n 0, 1) := by decide +kernel
theorem dX8_cutOpenOrder_1 : decode cX8_cutOpenOrder 1 = .ok (.getfield 21, 3) := by decide +kernel
theorem dX8_cutOpenOrder_4 : decode cX8_cutOpenOrder 4 = .ok (.aload_n 2, 1) := by decide +kernel
theorem dX8_cutOpenOrder_5 : decode cX8_cutOpenOrder 5 = .ok (.getfield 167, 3) := by decide +kernel
theorem dX8_cutOpenOrder_8 : decode cX8_cutOpenOrder 8 = .ok (.invokevirtual 88, 3) := by decide +kernel
theorem dX8_cutOpenOrder_11 : decode cX8_cutOpenOrder 11 = .ok (.istore_n 3, 1) := by decide +kernel
theorem dX8_cutOpenOrder_12 : decode cX8_cutOpenOrder 12 = .ok (.aload_n 0, 1) := by decide +kernel
theorem dX8_cutOpenOrder_13 : decode cX8_cutOpenOrder 13 = .ok (.iload_n 3, 1) := by decide +kernel
theorem dX8_cutOpenOrder_14 : decode cX8_cutOpenOrder 14 = .ok (.invokevirtual 102, 3) := by decide +kernel
theorem dX8_cutOpenOrder_17 : decode cX8_cutOpenOrder 17 = .ok (.ifCond .ne 6, 3) := by decide +kernel
theorem dX8_cutOpenOrder_20 : decode cX8_cutOpenOrder 20 = .ok (.bipush 10, 2) := by decide +kernel
theorem dX8_cutOpenOrder_22 : decode cX8_cutOpenOrder 22 = .ok (.ireturn, 1) := by decide +kernel
theorem dX8_cutOpenOrder_23 : decode cX8_cutOpenOrder 23 = .ok (.aload_n 0, 1) := by decide +kernel
theorem dX8_cutOpenOrder_24 : decode cX8_cutOpenOrder 24 = .ok (.getfield 35, 3) := by decide +kernel
theorem dX8_cutOpenOrder_27 : decode cX8_cutOpenOrder 27 = .ok (.aload_n 1, 1) := by decide +kernel
theorem dX8_cutOpenOrder_28 : decode cX8_cutOpenOrder 28 = .ok (.aload_n 2, 1) := by decide +kernel
theorem dX8_cutOpenOrder_29 : decode cX8_cutOpenOrder 29 = .ok (.aload_n 0, 1) := by decide +kernel
theorem dX8_cutOpenOrder_30 : decode cX8_cutOpenOrder 30 = .ok (.getfield 12, 3) := by decide +kernel
theorem dX8_cutOpenOrder_33 : decode cX8_cutOpenOrder 33 = .ok (.invokevirtual 141, 3) := by decide +kernel
theorem dX8_cutOpenOrder_36 : decode cX8_cutOpenOrder 36 = .ok (.pop, 1) := by decide +kernel
theorem dX8_cutOpenOrder_37 : decode cX8_cutOpenOrder 37 = .ok (.aload_n 0, 1) := by decide +kernel
theorem dX8_cutOpenOrder_38 : decode cX8_cutOpenOrder 38 = .ok (.getfield 28, 3) := by decide +kernel
theorem dX8_cutOpenOrder_41 : decode cX8_cutOpenOrder 41 = .ok (.aload_n 1, 1) := by decide +kernel
theorem dX8_cutOpenOrder_42 : decode cX8_cutOpenOrder 42 = .ok (.aload_n 2, 1) := by decide +kernel
theorem dX8_cutOpenOrder_43 : decode cX8_cutOpenOrder 43 = .ok (.getfield 167, 3) := by decide +kernel
theorem dX8_cutOpenOrder_46 : decode cX8_cutOpenOrder 46 = .ok (.aload_n 0, 1) := by decide +kernel
theorem dX8_cutOpenOrder_47 : decode cX8_cutOpenOrder 47 = .ok (.getfield 39, 3) := by decide +kernel
theorem dX8_cutOpenOrder_50 : decode cX8_cutOpenOrder 50 = .ok (.invokevirtual 171, 3) := by decide +kernel
theorem dX8_cutOpenOrder_53 : decode cX8_cutOpenOrder 53 = .ok (.invokevirtual 134, 3) := by decide +kernel
theorem dX8_cutOpenOrder_56 : decode cX8_cutOpenOrder 56 = .ok (.aload_n 0, 1) := by decide +kernel
theorem dX8_cutOpenOrder_57 : decode cX8_cutOpenOrder 57 = .ok (.dup, 1) := by decide +kernel
theorem dX8_cutOpenOrder_58 : decode cX8_cutOpenOrder 58 = .ok (.getfield 46, 3) := by decide +kernel
theorem dX8_cutOpenOrder_61 : decode cX8_cutOpenOrder 61 = .ok (.aload_n 1, 1) := by decide +kernel
theorem dX8_cutOpenOrder_62 : decode cX8_cutOpenOrder 62 = .ok (.invokevirtual 175, 3) := by decide +kernel
theorem dX8_cutOpenOrder_65 : decode cX8_cutOpenOrder 65 = .ok (.iadd, 1) := by decide +kernel
theorem dX8_cutOpenOrder_66 : decode cX8_cutOpenOrder 66 = .ok (.putfield 46, 3) := by decide +kernel
theorem dX8_cutOpenOrder_69 : decode cX8_cutOpenOrder 69 = .ok (.aload_n 0, 1) := by decide +kernel
theorem dX8_cutOpenOrder_70 : decode cX8_cutOpenOrder 70 = .ok (.dup, 1) := by decide +kernel
theorem dX8_cutOpenOrder_71 : decode cX8_cutOpenOrder 71 = .ok (.getfield 55, 3) := by decide +kernel
theorem dX8_cutOpenOrder_74 : decode cX8_cutOpenOrder 74 = .ok (.aload_n 0, 1) := by decide +kernel
theorem dX8_cutOpenOrder_75 : decode cX8_cutOpenOrder 75 = .ok (.getfield 35, 3) := by decide +kernel
theorem dX8_cutOpenOrder_78 : decode cX8_cutOpenOrder 78 = .ok (.getfield 176, 3) := by decide +kernel
theorem dX8_cutOpenOrder_81 : decode cX8_cutOpenOrder 81 = .ok (.iadd, 1) := by decide +kernel
theorem dX8_cutOpenOrder_82 : decode cX8_cutOpenOrder 82 = .ok (.putfield 55, 3) := by decide +kernel
theorem dX8_cutOpenOrder_85 : decode cX8_cutOpenOrder 85 = .ok (.iload_n 3, 1) := by decide +kernel
theorem dX8_cutOpenOrder_86 : decode cX8_cutOpenOrder 86 = .ok (.bipush 8, 2) := by decide +kernel
theorem dX8_cutOpenOrder_88 : decode cX8_cutOpenOrder 88 = .ok (.idiv, 1) := by decide +kernel
theorem dX8_cutOpenOrder_89 : decode cX8_cutOpenOrder 89 = .ok (.istore 4, 2) := by decide +kernel
theorem dX8_cutOpenOrder_91 : decode cX8_cutOpenOrder 91 = .ok (.aload_n 0, 1) := by decide +kernel
theorem dX8_cutOpenOrder_92 : decode cX8_cutOpenOrder 92 = .ok (.aload_n 0, 1) := by decide +kernel
theorem dX8_cutOpenOrder_93 : decode cX8_cutOpenOrder 93 = .ok (.getfield 35, 3) := by decide +kernel
theorem dX8_cutOpenOrder_96 : decode cX8_cutOpenOrder 96 = .ok (.getfield 177, 3) := by decide +kernel
theorem dX8_cutOpenOrder_99 : decode cX8_cutOpenOrder 99 = .ok (.aload_n 0, 1) := by decide +kernel
theorem dX8_cutOpenOrder_100 : decode cX8_cutOpenOrder 100 = .ok (.getfield 35, 3) := by decide +kernel
theorem dX8_cutOpenOrder_103 : decode cX8_cutOpenOrder 103 = .ok (.getfield 180, 3) := by decide +kernel
theorem dX8_cutOpenOrder_106 : decode cX8_cutOpenOrder 106 = .ok (.aload_n 2, 1) := by decide +kernel
theorem dX8_cutOpenOrder_107 : decode cX8_cutOpenOrder 107 = .ok (.iload 4, 2) := by decide +kernel
theorem dX8_cutOpenOrder_109 : decode cX8_cutOpenOrder 109 = .ok (.invokevirtual 183, 3) := by decide +kernel
theorem dX8_cutOpenOrder_112 : decode cX8_cutOpenOrder 112 = .ok (.istore 5, 2) := by decide +kernel
theorem dX8_cutOpenOrder_114 : decode cX8_cutOpenOrder 114 = .ok (.iload 5, 2) := by decide +kernel
theorem dX8_cutOpenOrder_116 : decode cX8_cutOpenOrder 116 = .ok (.aload_n 0, 1) := by decide +kernel
theorem dX8_cutOpenOrder_117 : decode cX8_cutOpenOrder 117 = .ok (.aload_n 0, 1) := by decide +kernel
theorem dX8_cutOpenOrder_118 : decode cX8_cutOpenOrder 118 = .ok (.getfield 35, 3) := by decide +kernel
theorem dX8_cutOpenOrder_121 : decode cX8_cutOpenOrder 121 = .ok (.getfield 187, 3) := by decide +kernel
theorem dX8_cutOpenOrder_124 : decode cX8_cutOpenOrder 124 = .ok (.aload_n 0, 1) := by decide +kernel
theorem dX8_cutOpenOrder_125 : decode cX8_cutOpenOrder 125 = .ok (.getfield 35, 3) := by decide +kernel
theorem dX8_cutOpenOrder_128 : decode cX8_cutOpenOrder 128 = .ok (.getfield 190, 3) := by decide +kernel
theorem dX8_cutOpenOrder_131 : decode cX8_cutOpenOrder 131 = .ok (.aload_n 2, 1) := by decide +kernel
theorem dX8_cutOpenOrder_132 : decode cX8_cutOpenOrder 132 = .ok (.iload 4, 2) := by decide +kernel
theorem dX8_cutOpenOrder_134 : decode cX8_cutOpenOrder 134 = .ok (.invokevirtual 183, 3) := by decide +kernel
theorem dX8_cutOpenOrder_137 : decode cX8_cutOpenOrder 137 = .ok (.iadd, 1) := by decide +kernel
theorem dX8_cutOpenOrder_138 : decode cX8_cutOpenOrder 138 = .ok (.ireturn, 1) := by decide +kernel
theorem dX8_keepOrScrap_0 : decode cX8_keepOrScrap 0 = .ok (.iload_n 1, 1) := by decide +kernel
theorem dX8_keepOrScrap_1 : decode cX8_keepOrScrap 1 = .ok (.ifCond .le 7, 3) := by decide +kernel
theorem dX8_keepOrScrap_4 : decode cX8_keepOrScrap 4 = .ok (.iload_n 2, 1) := by decide +kernel
theorem dX8_keepOrScrap_5 : decode cX8_keepOrScrap 5 = .ok (.ifCond .gt 5, 3) := by decide +kernel
theorem dX8_keepOrScrap_8 : decode cX8_keepOrScrap 8 = .ok (.iconst 0, 1) := by decide +kernel
theorem dX8_keepOrScrap_9 : decode cX8_keepOrScrap 9 = .ok (.ireturn, 1) := by decide +kernel
theorem dX8_keepOrScrap_10 : decode cX8_keepOrScrap 10 = .ok (.iload_n 1, 1) := by decide +kernel
theorem dX8_keepOrScrap_11 : decode cX8_keepOrScrap 11 = .ok (.aload_n 0, 1) := by decide +kernel
theorem dX8_keepOrScrap_12 : decode cX8_keepOrScrap 12 = .ok (.getfield 12, 3) := by decide +kernel
theorem dX8_keepOrScrap_15 : decode cX8_keepOrScrap 15 = .ok (.getfield 193, 3) := by decide +kernel
theorem dX8_keepOrScrap_18 : decode cX8_keepOrScrap 18 = .ok (.if_icmp .lt 48, 3) := by decide +kernel
theorem dX8_keepOrScrap_21 : decode cX8_keepOrScrap 21 = .ok (.iload_n 2, 1) := by decide +kernel
theorem dX8_keepOrScrap_22 : decode cX8_keepOrScrap 22 = .ok (.aload_n 0, 1) := by decide +kernel
theorem dX8_keepOrScrap_23 : decode cX8_keepOrScrap 23 = .ok (.getfield 12, 3) := by decide +kernel
theorem dX8_keepOrScrap_26 : decode cX8_keepOrScrap 26 = .ok (.getfield 193, 3) := by decide +kernel
theorem dX8_keepOrScrap_29 : decode cX8_keepOrScrap 29 = .ok (.if_icmp .lt 37, 3) := by decide +kernel
theorem dX8_keepOrScrap_32 : decode cX8_keepOrScrap 32 = .ok (.aload_n 0, 1) := by decide +kernel
theorem dX8_keepOrScrap_33 : decode cX8_keepOrScrap 33 = .ok (.getfield 21, 3) := by decide +kernel
theorem dX8_keepOrScrap_36 : decode cX8_keepOrScrap 36 = .ok (.iload 4, 2) := by decide +kernel
theorem dX8_keepOrScrap_38 : decode cX8_keepOrScrap 38 = .ok (.invokevirtual 81, 3) := by decide +kernel
theorem dX8_keepOrScrap_41 : decode cX8_keepOrScrap 41 = .ok (.ifCond .eq 25, 3) := by decide +kernel
theorem dX8_keepOrScrap_44 : decode cX8_keepOrScrap 44 = .ok (.aload_n 0, 1) := by decide +kernel
theorem dX8_keepOrScrap_45 : decode cX8_keepOrScrap 45 = .ok (.getfield 21, 3) := by decide +kernel
theorem dX8_keepOrScrap_48 : decode cX8_keepOrScrap 48 = .ok (.iload 4, 2) := by decide +kernel
theorem dX8_keepOrScrap_50 : decode cX8_keepOrScrap 50 = .ok (.aload_n 3, 1) := by decide +kernel
theorem dX8_keepOrScrap_51 : decode cX8_keepOrScrap 51 = .ok (.getfield 196, 3) := by decide +kernel
theorem dX8_keepOrScrap_54 : decode cX8_keepOrScrap 54 = .ok (.iload_n 1, 1) := by decide +kernel
theorem dX8_keepOrScrap_55 : decode cX8_keepOrScrap 55 = .ok (.iload_n 2, 1) := by decide +kernel
theorem dX8_keepOrScrap_56 : decode cX8_keepOrScrap 56 = .ok (.aload_n 3, 1) := by decide +kernel
theorem dX8_keepOrScrap_57 : decode cX8_keepOrScrap 57 = .ok (.getfield 167, 3) := by decide +kernel
theorem dX8_keepOrScrap_60 : decode cX8_keepOrScrap 60 = .ok (.invokevirtual 84, 3) := by decide +kernel
theorem dX8_keepOrScrap_63 : decode cX8_keepOrScrap 63 = .ok (.pop, 1) := by decide +kernel
theorem dX8_keepOrScrap_64 : decode cX8_keepOrScrap 64 = .ok (.iconst 1, 1) := by decide +kernel
theorem dX8_keepOrScrap_65 : decode cX8_keepOrScrap 65 = .ok (.ireturn, 1) := by decide +kernel
theorem dX8_keepOrScrap_66 : decode cX8_keepOrScrap 66 = .ok (.aload_n 0, 1) := by decide +kernel
theorem dX8_keepOrScrap_67 : decode cX8_keepOrScrap 67 = .ok (.dup, 1) := by decide +kernel
theorem dX8_keepOrScrap_68 : decode cX8_keepOrScrap 68 = .ok (.getfield 49, 3) := by decide +kernel
theorem dX8_keepOrScrap_71 : decode cX8_keepOrScrap 71 = .ok (.iload_n 1, 1) := by decide +kernel
theorem dX8_keepOrScrap_72 : decode cX8_keepOrScrap 72 = .ok (.iload_n 2, 1) := by decide +kernel
theorem dX8_keepOrScrap_73 : decode cX8_keepOrScrap 73 = .ok (.imul, 1) := by decide +kernel
theorem dX8_keepOrScrap_74 : decode cX8_keepOrScrap 74 = .ok (.iadd, 1) := by decide +kernel
theorem dX8_keepOrScrap_75 : decode cX8_keepOrScrap 75 = .ok (.putfield 49, 3) := by decide +kernel
theorem dX8_keepOrScrap_78 : decode cX8_keepOrScrap 78 = .ok (.iconst 0, 1) := by decide +kernel
theorem dX8_keepOrScrap_79 : decode cX8_keepOrScrap 79 = .ok (.ireturn, 1) := by decide +kernel
theorem dX8_takeOut_0 : decode cX8_takeOut 0 = .ok (.iconst 0, 1) := by decide +kernel
theorem dX8_takeOut_1 : decode cX8_takeOut 1 = .ok (.istore_n 2, 1) := by decide +kernel
theorem dX8_takeOut_2 : decode cX8_takeOut 2 = .ok (.aload_n 0, 1) := by decide +kernel
theorem dX8_takeOut_3 : decode cX8_takeOut 3 = .ok (.getfield 21, 3) := by decide +kernel
theorem dX8_takeOut_6 : decode cX8_takeOut 6 = .ok (.iload_n 1, 1) := by decide +kernel
theorem dX8_takeOut_7 : decode cX8_takeOut 7 = .ok (.invokevirtual 99, 3) := by decide +kernel
theorem dX8_takeOut_10 : decode cX8_takeOut 10 = .ok (.istore_n 3, 1) := by decide +kernel
theorem dX8_takeOut_11 : decode cX8_takeOut 11 = .ok (.iload_n 3, 1) := by decide +kernel
theorem dX8_takeOut_12 : decode cX8_takeOut 12 = .ok (.ifCond .lt 61, 3) := by decide +kernel
theorem dX8_takeOut_15 : decode cX8_takeOut 15 = .ok (.aload_n 0, 1) := by decide +kernel
theorem dX8_takeOut_16 : decode cX8_takeOut 16 = .ok (.dup, 1) := by decide +kernel
theorem dX8_takeOut_17 : decode cX8_takeOut 17 = .ok (.getfield 58, 3) := by decide +kernel
theorem dX8_takeOut_20 : decode cX8_takeOut 20 = .ok (.iconst 1, 1) := by decide +kernel
theorem dX8_takeOut_21 : decode cX8_takeOut 21 = .ok (.iadd, 1) := by decide +kernel
theorem dX8_takeOut_22 : decode cX8_takeOut 22 = .ok (.putfield 58, 3) := by decide +kernel
theorem dX8_takeOut_25 : decode cX8_takeOut 25 = .ok (.aload_n 0, 1) := by decide +kernel
theorem dX8_takeOut_26 : decode cX8_takeOut 26 = .ok (.getfield 12, 3) := by decide +kernel
theorem dX8_takeOut_29 : decode cX8_takeOut 29 = .ok (.getfield 199, 3) := by decide +kernel
theorem dX8_takeOut_32 : decode cX8_takeOut 32 = .ok (.ifCond .le 18, 3) := by decide +kernel
theorem dX8_takeOut_35 : decode cX8_takeOut 35 = .ok (.aload_n 0, 1) := by decide +kernel
theorem dX8_takeOut_36 : decode cX8_takeOut 36 = .ok (.getfield 58, 3) := by decide +kernel
theorem dX8_takeOut_39 : decode cX8_takeOut 39 = .ok (.aload_n 0, 1) := by decide +kernel
theorem dX8_takeOut_40 : decode cX8_takeOut 40 = .ok (.getfield 12, 3) := by decide +kernel
theorem dX8_takeOut_43 : decode cX8_takeOut 43 = .ok (.getfield 199, 3) := by decide +kernel
theorem dX8_takeOut_46 : decode cX8_takeOut 46 = .ok (.irem, 1) := by decide +kernel
theorem dX8_takeOut_47 : decode cX8_takeOut 47 = .ok (.ifCond .eq 7, 3) := by decide +kernel
theorem dX8_takeOut_50 : decode cX8_takeOut 50 = .ok (.iconst 1, 1) := by decide +kernel
theorem dX8_takeOut_51 : decode cX8_takeOut 51 = .ok (.goto 4, 3) := by decide +kernel
theorem dX8_takeOut_54 : decode cX8_takeOut 54 = .ok (.iconst 0, 1) := by decide +kernel
theorem dX8_takeOut_55 : decode cX8_takeOut 55 = .ok (.istore_n 2, 1) := by decide +kernel
theorem dX8_takeOut_56 : decode cX8_takeOut 56 = .ok (.iload_n 2, 1) := by decide +kernel
theorem dX8_takeOut_57 : decode cX8_takeOut 57 = .ok (.ifCond .ne 10, 3) := by decide +kernel
theorem dX8_takeOut_60 : decode cX8_takeOut 60 = .ok (.aload_n 0, 1) := by decide +kernel
theorem dX8_takeOut_61 : decode cX8_takeOut 61 = .ok (.iload_n 1, 1) := by decide +kernel
theorem dX8_takeOut_62 : decode cX8_takeOut 62 = .ok (.iload_n 3, 1) := by decide +kernel
theorem dX8_takeOut_63 : decode cX8_takeOut 63 = .ok (.iadd, 1) := by decide +kernel
theorem dX8_takeOut_64 : decode cX8_takeOut 64 = .ok (.invokevirtual 202, 3) := by decide +kernel
theorem dX8_takeOut_67 : decode cX8_takeOut 67 = .ok (.iinc 3 (-1), 3) := by decide +kernel
theorem dX8_takeOut_70 : decode cX8_takeOut 70 = .ok (.goto (-59), 3) := by decide +kernel
theorem dX8_takeOut_73 : decode cX8_takeOut 73 = .ok (.iload_n 2, 1) := by decide +kernel
theorem dX8_takeOut_74 : decode cX8_takeOut 74 = .ok (.ifCond .eq 11, 3) := by decide +kernel
theorem dX8_takeOut_77 : decode cX8_takeOut 77 = .ok (.aload_n 0, 1) := by decide +kernel
theorem dX8_takeOut_78 : decode cX8_takeOut 78 = .ok (.getfield 21, 3) := by decide +kernel
theorem dX8_takeOut_81 : decode cX8_takeOut 81 = .ok (.iload_n 1, 1) := by decide +kernel
theorem dX8_takeOut_82 : decode cX8_takeOut 82 = .ok (.invokevirtual 206, 3) := by decide +kernel
theorem dX8_takeOut_85 : decode cX8_takeOut 85 = .ok (.iload_n 2, 1) := by decide +kernel
theorem dX8_takeOut_86 : decode cX8_takeOut 86 = .ok (.ireturn, 1) := by decide +kernel
theorem dX8_breakSheet_0 : decode cX8_breakSheet 0 = .ok (.aload_n 0, 1) := by decide +kernel
theorem dX8_breakSheet_1 : decode cX8_breakSheet 1 = .ok (.getfield 21, 3) := by decide +kernel
theorem dX8_breakSheet_4 : decode cX8_breakSheet 4 = .ok (.iload_n 1, 1) := by decide +kernel
theorem dX8_breakSheet_5 : decode cX8_breakSheet 5 = .ok (.invokevirtual 92, 3) := by decide +kernel
theorem dX8_breakSheet_8 : decode cX8_breakSheet 8 = .ok (.astore_n 2, 1) := by decide +kernel
theorem dX8_breakSheet_9 : decode cX8_breakSheet 9 = .ok (.aload_n 2, 1) := by decide +kernel
theorem dX8_breakSheet_10 : decode cX8_breakSheet 10 = .ok (.ifnull 24, 3) := by decide +kernel
theorem dX8_breakSheet_13 : decode cX8_breakSheet 13 = .ok (.aload_n 0, 1) := by decide +kernel
theorem dX8_breakSheet_14 : decode cX8_breakSheet 14 = .ok (.dup, 1) := by decide +kernel
theorem dX8_breakSheet_15 : decode cX8_breakSheet 15 = .ok (.getfield 52, 3) := by decide +kernel
theorem dX8_breakSheet_18 : decode cX8_breakSheet 18 = .ok (.aload_n 2, 1) := by decide +kernel
theorem dX8_breakSheet_19 : decode cX8_breakSheet 19 = .ok (.invokevirtual 109, 3) := by decide +kernel
theorem dX8_breakSheet_22 : decode cX8_breakSheet 22 = .ok (.iadd, 1) := by decide +kernel
theorem dX8_breakSheet_23 : decode cX8_breakSheet 23 = .ok (.putfield 52, 3) := by decide +kernel
theorem dX8_breakSheet_26 : decode cX8_breakSheet 26 = .ok (.aload_n 0, 1) := by decide +kernel
theorem dX8_breakSheet_27 : decode cX8_breakSheet 27 = .ok (.getfield 21, 3) := by decide +kernel
theorem dX8_breakSheet_30 : decode cX8_breakSheet 30 = .ok (.iload_n 1, 1) := by decide +kernel
theorem dX8_breakSheet_31 : decode cX8_breakSheet 31 = .ok (.invokevirtual 206, 3) := by decide +kernel
theorem dX8_breakSheet_34 : decode cX8_breakSheet 34 = .ok (.return_, 1) := by decide +kernel
theorem dX9_init_0 : decode cX9_init 0 = .ok (.aload_n 0, 1) := by decide +kernel
theorem dX9_init_1 : decode cX9_init 1 = .ok (.invokespecial 3, 3) := by decide +kernel
theorem dX9_init_4 : decode cX9_init 4 = .ok (.aload_n 0, 1) := by decide +kernel
theorem dX9_init_5 : decode cX9_init 5 = .ok (.new 9, 3) := by decide +kernel
theorem dX9_init_8 : decode cX9_init 8 = .ok (.dup, 1) := by decide +kernel
theorem dX9_init_9 : decode cX9_init 9 = .ok (.invokespecial 11, 3) := by decide +kernel
theorem dX9_init_12 : decode cX9_init 12 = .ok (.putfield 12, 3) := by decide +kernel
theorem dX9_init_15 : decode cX9_init 15 = .ok (.aload_n 0, 1) := by decide +kernel
theorem dX9_init_16 : decode cX9_init 16 = .ok (.new 9, 3) := by decide +kernel
theorem dX9_init_19 : decode cX9_init 19 = .ok (.dup, 1) := by decide +kernel
theorem dX9_init_20 : decode cX9_init 20 = .ok (.invokespecial 11, 3) := by decide +kernel
theorem dX9_init_23 : decode cX9_init 23 = .ok (.putfield 16, 3) := by decide +kernel
theorem dX9_init_26 : decode cX9_init 26 = .ok (.aload_n 0, 1) := by decide +kernel
theorem dX9_init_27 : decode cX9_init 27 = .ok (.new 9, 3) := by decide +kernel
theorem dX9_init_30 : decode cX9_init 30 = .ok (.dup, 1) := by decide +kernel
theorem dX9_init_31 : decode cX9_init 31 = .ok (.invokespecial 11, 3) := by decide +kernel
theorem dX9_init_34 : decode cX9_init 34 = .ok (.putfield 19, 3) := by decide +kernel
theorem dX9_init_37 : decode cX9_init 37 = .ok (.aload_n 0, 1) := by decide +kernel
theorem dX9_init_38 : decode cX9_init 38 = .ok (.iconst 0, 1) := by decide +kernel
theorem dX9_init_39 : decode cX9_init 39 = .ok (.putfield 22, 3) := by decide +kernel
theorem dX9_init_42 : decode cX9_init 42 = .ok (.aload_n 0, 1) := by decide +kernel
theorem dX9_init_43 : decode cX9_init 43 = .ok (.new 26, 3) := by decide +kernel
theorem dX9_init_46 : decode cX9_init 46 = .ok (.dup, 1) := by decide +kernel
theorem dX9_init_47 : decode cX9_init 47 = .ok (.invokespecial 28, 3) := by decide +kernel
theorem dX9_init_50 : decode cX9_init 50 = .ok (.putfield 29, 3) := by decide +kernel
theorem dX9_init_53 : decode cX9_init 53 = .ok (.aload_n 0, 1) := by decide +kernel
theorem dX9_init_54 : decode cX9_init 54 = .ok (.new 33, 3) := by decide +kernel
theorem dX9_init_57 : decode cX9_init 57 = .ok (.dup, 1) := by decide +kernel
theorem dX9_init_58 : decode cX9_init 58 = .ok (.invokespecial 35, 3) := by decide +kernel
theorem dX9_init_61 : decode cX9_init 61 = .ok (.putfield 36, 3) := by decide +kernel
theorem dX9_init_64 : decode cX9_init 64 = .ok (.return_, 1) := by decide +kernel
theorem dX9_set_0 : decode cX9_set 0 = .ok (.aload_n 0, 1) := by decide +kernel
theorem dX9_set_1 : decode cX9_set 1 = .ok (.getfield 16, 3) := by decide +kernel
theorem dX9_set_4 : decode cX9_set 4 = .ok (.aload_n 0, 1) := by decide +kernel
theorem dX9_set_5 : decode cX9_set 5 = .ok (.getfield 12, 3) := by decide +kernel
theorem dX9_set_8 : decode cX9_set 8 = .ok (.invokevirtual 40, 3) := by decide +kernel
theorem dX9_set_11 : decode cX9_set 11 = .ok (.aload_n 0, 1) := by decide +kernel
theorem dX9_set_12 : decode cX9_set 12 = .ok (.aload_n 0, 1) := by decide +kernel
theorem dX9_set_13 : decode cX9_set 13 = .ok (.getfield 12, 3) := by decide +kernel
theorem dX9_set_16 : decode cX9_set 16 = .ok (.getfield 44, 3) := by decide +kernel
theorem dX9_set_19 : decode cX9_set 19 = .ok (.iload_n 1, 1) := by decide +kernel
theorem dX9_set_20 : decode cX9_set 20 = .ok (.iload_n 2, 1) := by decide +kernel
theorem dX9_set_21 : decode cX9_set 21 = .ok (.invokevirtual 48, 3) := by decide +kernel
theorem dX9_set_24 : decode cX9_set 24 = .ok (.invokevirtual 54, 3) := by decide +kernel
theorem dX9_set_27 : decode cX9_set 27 = .ok (.ireturn, 1) := by decide +kernel
theorem dX9_buy_0 : decode cX9_buy 0 = .ok (.aload_n 0, 1) := by decide +kernel
theorem dX9_buy_1 : decode cX9_buy 1 = .ok (.getfield 16, 3) := by decide +kernel
theorem dX9_buy_4 : decode cX9_buy 4 = .ok (.aload_n 0, 1) := by decide +kernel
theorem dX9_buy_5 : decode cX9_buy 5 = .ok (.getfield 12, 3) := by decide +kernel
theorem dX9_buy_8 : decode cX9_buy 8 = .ok (.invokevirtual 40, 3) := by decide +kernel
theorem dX9_buy_11 : decode cX9_buy 11 = .ok (.aload_n 0, 1) := by decide +kernel
theorem dX9_buy_12 : decode cX9_buy 12 = .ok (.aload_n 0, 1) := by decide +kernel
theorem dX9_buy_13 : decode cX9_buy 13 = .ok (.getfield 12, 3) := by decide +kernel
theorem dX9_buy_16 : decode cX9_buy 16 = .ok (.iload_n 1, 1) := by decide +kernel
theorem dX9_buy_17 : decode cX9_buy 17 = .ok (.iload_n 2, 1) := by decide +kernel
theorem dX9_buy_18 : decode cX9_buy 18 = .ok (.iload_n 3, 1) := by decide +kernel
theorem dX9_buy_19 : decode cX9_buy 19 = .ok (.iload 4, 2) := by decide +kernel
theorem dX9_buy_21 : decode cX9_buy 21 = .ok (.invokevirtual 58, 3) := by decide +kernel
theorem dX9_buy_24 : decode cX9_buy 24 = .ok (.invokevirtual 54, 3) := by decide +kernel
theorem dX9_buy_27 : decode cX9_buy 27 = .ok (.ireturn, 1) := by decide +kernel
theorem dX9_move_0 : decode cX9_move 0 = .ok (.aload_n 0, 1) := by decide +kernel
theorem dX9_move_1 : decode cX9_move 1 = .ok (.getfield 16, 3) := by decide +kernel
theorem dX9_move_4 : decode cX9_move 4 = .ok (.aload_n 0, 1) := by decide +kernel
theorem dX9_move_5 : decode cX9_move 5 = .ok (.getfield 12, 3) := by decide +kernel
theorem dX9_move_8 : decode cX9_move 8 = .ok (.invokevirtual 40, 3) := by decide +kernel
theorem dX9_move_11 : decode cX9_move 11 = .ok (.aload_n 0, 1) := by decide +kernel
theorem dX9_move_12 : decode cX9_move 12 = .ok (.aload_n 0, 1) := by decide +kernel
theorem dX9_move_13 : decode cX9_move 13 = .ok (.getfield 12, 3) := by decide +kernel
theorem dX9_move_16 : decode cX9_move 16 = .ok (.iload_n 1, 1) := by decide +kernel
theorem dX9_move_17 : decode cX9_move 17 = .ok (.iload_n 2, 1) := by decide +kernel
theorem dX9_move_18 : decode cX9_move 18 = .ok (.invokevirtual 62, 3) := by decide +kernel
theorem dX9_move_21 : decode cX9_move 21 = .ok (.invokevirtual 54, 3) := by decide +kernel
theorem dX9_move_24 : decode cX9_move 24 = .ok (.ireturn, 1) := by decide +kernel
theorem dX9_scrap_0 : decode cX9_scrap 0 = .ok (.aload_n 0, 1) := by decide +kernel
theorem dX9_scrap_1 : decode cX9_scrap 1 = .ok (.getfield 16, 3) := by decide +kernel
theorem dX9_scrap_4 : decode cX9_scrap 4 = .ok (.aload_n 0, 1) := by decide +kernel
theorem dX9_scrap_5 : decode cX9_scrap 5 = .ok (.getfield 12, 3) := by decide +kernel
theorem dX9_scrap_8 : decode cX9_scrap 8 = .ok (.invokevirtual 40, 3) := by decide +kernel
theorem dX9_scrap_11 : decode cX9_scrap 11 = .ok (.aload_n 0, 1) := by decide +kernel
theorem dX9_scrap_12 : decode cX9_scrap 12 = .ok (.aload_n 0, 1) := by decide +kernel
theorem dX9_scrap_13 : decode cX9_scrap 13 = .ok (.getfield 12, 3) := by decide +kernel
theorem dX9_scrap_16 : decode cX9_scrap 16 = .ok (.iload_n 1, 1) := by decide +kernel
theorem dX9_scrap_17 : decode cX9_scrap 17 = .ok (.invokevirtual 65, 3) := by decide +kernel
theorem dX9_scrap_20 : decode cX9_scrap 20 = .ok (.invokevirtual 54, 3) := by decide +kernel
theorem dX9_scrap_23 : decode cX9_scrap 23 = .ok (.ireturn, 1) := by decide +kernel
theorem dX9_order_0 : decode cX9_order 0 = .ok (.aload_n 0, 1) := by decide +kernel
theorem dX9_order_1 : decode cX9_order 1 = .ok (.getfield 16, 3) := by decide +kernel
theorem dX9_order_4 : decode cX9_order 4 = .ok (.aload_n 0, 1) := by decide +kernel
theorem dX9_order_5 : decode cX9_order 5 = .ok (.getfield 12, 3) := by decide +kernel
theorem dX9_order_8 : decode cX9_order 8 = .ok (.invokevirtual 40, 3) := by decide +kernel
theorem dX9_order_11 : decode cX9_order 11 = .ok (.aload_n 0, 1) := by decide +kernel
theorem dX9_order_12 : decode cX9_order 12 = .ok (.aload_n 0, 1) := by decide +kernel
theorem dX9_order_13 : decode cX9_order 13 = .ok (.getfield 12, 3) := by decide +kernel
theorem dX9_order_16 : decode cX9_order 16 = .ok (.iload_n 1, 1) := by decide +kernel
theorem dX9_order_17 : decode cX9_order 17 = .ok (.iload_n 2, 1) := by decide +kernel
theorem dX9_order_18 : decode cX9_order 18 = .ok (.iload_n 3, 1) := by decide +kernel
theorem dX9_order_19 : decode cX9_order 19 = .ok (.iload 4, 2) := by decide +kernel
theorem dX9_order_21 : decode cX9_order 21 = .ok (.invokevirtual 68, 3) := by decide +kernel
theorem dX9_order_24 : decode cX9_order 24 = .ok (.invokevirtual 54, 3) := by decide +kernel
theorem dX9_order_27 : decode cX9_order 27 = .ok (.ireturn, 1) := by decide +kernel
theorem dX9_cancel_0 : decode cX9_cancel 0 = .ok (.aload_n 0, 1) := by decide +kernel
theorem dX9_cancel_1 : decode cX9_cancel 1 = .ok (.getfield 16, 3) := by decide +kernel
theorem dX9_cancel_4 : decode cX9_cancel 4 = .ok (.aload_n 0, 1) := by decide +kernel
theorem dX9_cancel_5 : decode cX9_cancel 5 = .ok (.getfield 12, 3) := by decide +kernel
theorem dX9_cancel_8 : decode cX9_cancel 8 = .ok (.invokevirtual 40, 3) := by decide +kernel
theorem dX9_cancel_11 : decode cX9_cancel 11 = .ok (.aload_n 0, 1) := by decide +kernel
theorem dX9_cancel_12 : decode cX9_cancel 12 = .ok (.aload_n 0, 1) := by decide +kernel
theorem dX9_cancel_13 : decode cX9_cancel 13 = .ok (.getfield 12, 3) := by decide +kernel
theorem dX9_cancel_16 : decode cX9_cancel 16 = .ok (.iload_n 1, 1) := by decide +kernel
theorem dX9_cancel_17 : decode cX9_cancel 17 = .ok (.invokevirtual 71, 3) := by decide +kernel
theorem dX9_cancel_20 : decode cX9_cancel 20 = .ok (.invokevirtual 54, 3) := by decide +kernel
theorem dX9_cancel_23 : decode cX9_cancel 23 = .ok (.ireturn, 1) := by decide +kernel
theorem dX9_cut_0 : decode cX9_cut 0 = .ok (.aload_n 0, 1) := by decide +kernel
theorem dX9_cut_1 : decode cX9_cut 1 = .ok (.getfield 16, 3) := by decide +kernel
theorem dX9_cut_4 : decode cX9_cut 4 = .ok (.aload_n 0, 1) := by decide +kernel
theorem dX9_cut_5 : decode cX9_cut 5 = .ok (.getfield 12, 3) := by decide +kernel
theorem dX9_cut_8 : decode cX9_cut 8 = .ok (.invokevirtual 40, 3) := by decide +kernel
theorem dX9_cut_11 : decode cX9_cut 11 = .ok (.aload_n 0, 1) := by decide +kernel
theorem dX9_cut_12 : decode cX9_cut 12 = .ok (.aload_n 0, 1) := by decide +kernel
theorem dX9_cut_13 : decode cX9_cut 13 = .ok (.getfield 12, 3) := by decide +kernel
theorem dX9_cut_16 : decode cX9_cut 16 = .ok (.iload_n 1, 1) := by decide +kernel
theorem dX9_cut_17 : decode cX9_cut 17 = .ok (.iload_n 2, 1) := by decide +kernel
theorem dX9_cut_18 : decode cX9_cut 18 = .ok (.invokevirtual 74, 3) := by decide +kernel
theorem dX9_cut_21 : decode cX9_cut 21 = .ok (.invokevirtual 54, 3) := by decide +kernel
theorem dX9_cut_24 : decode cX9_cut 24 = .ok (.ireturn, 1) := by decide +kernel
theorem dX9_plan_0 : decode cX9_plan 0 = .ok (.aload_n 0, 1) := by decide +kernel
theorem dX9_plan_1 : decode cX9_plan 1 = .ok (.getfield 16, 3) := by decide +kernel
theorem dX9_plan_4 : decode cX9_plan 4 = .ok (.aload_n 0, 1) := by decide +kernel
theorem dX9_plan_5 : decode cX9_plan 5 = .ok (.getfield 12, 3) := by decide +kernel
theorem dX9_plan_8 : decode cX9_plan 8 = .ok (.invokevirtual 40, 3) := by decide +kernel
theorem dX9_plan_11 : decode cX9_plan 11 = .ok (.aload_n 0, 1) := by decide +kernel
theorem dX9_plan_12 : decode cX9_plan 12 = .ok (.aload_n 0, 1) := by decide +kernel
theorem dX9_plan_13 : decode cX9_plan 13 = .ok (.getfield 12, 3) := by decide +kernel
theorem dX9_plan_16 : decode cX9_plan 16 = .ok (.iload_n 1, 1) := by decide +kernel
theorem dX9_plan_17 : decode cX9_plan 17 = .ok (.invokevirtual 77, 3) := by decide +kernel
theorem dX9_plan_20 : decode cX9_plan 20 = .ok (.invokevirtual 54, 3) := by decide +kernel
theorem dX9_plan_23 : decode cX9_plan 23 = .ok (.ireturn, 1) := by decide +kernel
theorem dX9_pass_0 : decode cX9_pass 0 = .ok (.aload_n 0, 1) := by decide +kernel
theorem dX9_pass_1 : decode cX9_pass 1 = .ok (.getfield 16, 3) := by decide +kernel
theorem dX9_pass_4 : decode cX9_pass 4 = .ok (.aload_n 0, 1) := by decide +kernel
theorem dX9_pass_5 : decode cX9_pass 5 = .ok (.getfield 12, 3) := by decide +kernel
theorem dX9_pass_8 : decode cX9_pass 8 = .ok (.invokevirtual 40, 3) := by decide +kernel
theorem dX9_pass_11 : decode cX9_pass 11 = .ok (.aload_n 0, 1) := by decide +kernel
