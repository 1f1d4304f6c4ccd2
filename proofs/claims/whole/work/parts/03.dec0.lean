theorem dX0_init_0 : decode cX0_init 0 = .ok (.aload_n 0, 1) := by decide +kernel
theorem dX0_init_1 : decode cX0_init 1 = .ok (.invokespecial 3, 3) := by decide +kernel
theorem dX0_init_4 : decode cX0_init 4 = .ok (.aload_n 0, 1) := by decide +kernel
theorem dX0_init_5 : decode cX0_init 5 = .ok (.bipush 6, 2) := by decide +kernel
theorem dX0_init_7 : decode cX0_init 7 = .ok (.newarray .int, 2) := by decide +kernel
theorem dX0_init_9 : decode cX0_init 9 = .ok (.putfield 9, 3) := by decide +kernel
theorem dX0_init_12 : decode cX0_init 12 = .ok (.aload_n 0, 1) := by decide +kernel
theorem dX0_init_13 : decode cX0_init 13 = .ok (.bipush 6, 2) := by decide +kernel
theorem dX0_init_15 : decode cX0_init 15 = .ok (.newarray .int, 2) := by decide +kernel
theorem dX0_init_17 : decode cX0_init 17 = .ok (.putfield 15, 3) := by decide +kernel
theorem dX0_init_20 : decode cX0_init 20 = .ok (.aload_n 0, 1) := by decide +kernel
theorem dX0_init_21 : decode cX0_init 21 = .ok (.bipush 6, 2) := by decide +kernel
theorem dX0_init_23 : decode cX0_init 23 = .ok (.newarray .int, 2) := by decide +kernel
theorem dX0_init_25 : decode cX0_init 25 = .ok (.putfield 18, 3) := by decide +kernel
theorem dX0_init_28 : decode cX0_init 28 = .ok (.aload_n 0, 1) := by decide +kernel
theorem dX0_init_29 : decode cX0_init 29 = .ok (.bipush 6, 2) := by decide +kernel
theorem dX0_init_31 : decode cX0_init 31 = .ok (.newarray .int, 2) := by decide +kernel
theorem dX0_init_33 : decode cX0_init 33 = .ok (.putfield 21, 3) := by decide +kernel
theorem dX0_init_36 : decode cX0_init 36 = .ok (.aload_n 0, 1) := by decide +kernel
theorem dX0_init_37 : decode cX0_init 37 = .ok (.bipush 6, 2) := by decide +kernel
theorem dX0_init_39 : decode cX0_init 39 = .ok (.newarray .int, 2) := by decide +kernel
theorem dX0_init_41 : decode cX0_init 41 = .ok (.putfield 24, 3) := by decide +kernel
theorem dX0_init_44 : decode cX0_init 44 = .ok (.return_, 1) := by decide +kernel
theorem dX0_add_0 : decode cX0_add 0 = .ok (.aload_n 0, 1) := by decide +kernel
theorem dX0_add_1 : decode cX0_add 1 = .ok (.getfield 27, 3) := by decide +kernel
theorem dX0_add_4 : decode cX0_add 4 = .ok (.bipush 6, 2) := by decide +kernel
theorem dX0_add_6 : decode cX0_add 6 = .ok (.if_icmp .ge 65, 3) := by decide +kernel
theorem dX0_add_9 : decode cX0_add 9 = .ok (.aload_n 0, 1) := by decide +kernel
theorem dX0_add_10 : decode cX0_add 10 = .ok (.getfield 9, 3) := by decide +kernel
theorem dX0_add_13 : decode cX0_add 13 = .ok (.aload_n 0, 1) := by decide +kernel
theorem dX0_add_14 : decode cX0_add 14 = .ok (.getfield 27, 3) := by decide +kernel
theorem dX0_add_17 : decode cX0_add 17 = .ok (.iload_n 1, 1) := by decide +kernel
theorem dX0_add_18 : decode cX0_add 18 = .ok (.iastore, 1) := by decide +kernel
theorem dX0_add_19 : decode cX0_add 19 = .ok (.aload_n 0, 1) := by decide +kernel
theorem dX0_add_20 : decode cX0_add 20 = .ok (.getfield 15, 3) := by decide +kernel
theorem dX0_add_23 : decode cX0_add 23 = .ok (.aload_n 0, 1) := by decide +kernel
theorem dX0_add_24 : decode cX0_add 24 = .ok (.getfield 27, 3) := by decide +kernel
theorem dX0_add_27 : decode cX0_add 27 = .ok (.iload_n 2, 1) := by decide +kernel
theorem dX0_add_28 : decode cX0_add 28 = .ok (.iastore, 1) := by decide +kernel
theorem dX0_add_29 : decode cX0_add 29 = .ok (.aload_n 0, 1) := by decide +kernel
theorem dX0_add_30 : decode cX0_add 30 = .ok (.getfield 18, 3) := by decide +kernel
theorem dX0_add_33 : decode cX0_add 33 = .ok (.aload_n 0, 1) := by decide +kernel
theorem dX0_add_34 : decode cX0_add 34 = .ok (.getfield 27, 3) := by decide +kernel
theorem dX0_add_37 : decode cX0_add 37 = .ok (.iload_n 3, 1) := by decide +kernel
theorem dX0_add_38 : decode cX0_add 38 = .ok (.iastore, 1) := by decide +kernel
theorem dX0_add_39 : decode cX0_add 39 = .ok (.aload_n 0, 1) := by decide +kernel
theorem dX0_add_40 : decode cX0_add 40 = .ok (.getfield 21, 3) := by decide +kernel
theorem dX0_add_43 : decode cX0_add 43 = .ok (.aload_n 0, 1) := by decide +kernel
theorem dX0_add_44 : decode cX0_add 44 = .ok (.getfield 27, 3) := by decide +kernel
theorem dX0_add_47 : decode cX0_add 47 = .ok (.iload 4, 2) := by decide +kernel
theorem dX0_add_49 : decode cX0_add 49 = .ok (.iastore, 1) := by decide +kernel
theorem dX0_add_50 : decode cX0_add 50 = .ok (.aload_n 0, 1) := by decide +kernel
theorem dX0_add_51 : decode cX0_add 51 = .ok (.getfield 24, 3) := by decide +kernel
theorem dX0_add_54 : decode cX0_add 54 = .ok (.aload_n 0, 1) := by decide +kernel
theorem dX0_add_55 : decode cX0_add 55 = .ok (.getfield 27, 3) := by decide +kernel
theorem dX0_add_58 : decode cX0_add 58 = .ok (.iload 5, 2) := by decide +kernel
theorem dX0_add_60 : decode cX0_add 60 = .ok (.iastore, 1) := by decide +kernel
theorem dX0_add_61 : decode cX0_add 61 = .ok (.aload_n 0, 1) := by decide +kernel
theorem dX0_add_62 : decode cX0_add 62 = .ok (.dup, 1) := by decide +kernel
theorem dX0_add_63 : decode cX0_add 63 = .ok (.getfield 27, 3) := by decide +kernel
theorem dX0_add_66 : decode cX0_add 66 = .ok (.iconst 1, 1) := by decide +kernel
theorem dX0_add_67 : decode cX0_add 67 = .ok (.iadd, 1) := by decide +kernel
theorem dX0_add_68 : decode cX0_add 68 = .ok (.putfield 27, 3) := by decide +kernel
theorem dX0_add_71 : decode cX0_add 71 = .ok (.return_, 1) := by decide +kernel
theorem dX0_stepsAt_0 : decode cX0_stepsAt 0 = .ok (.iload_n 2, 1) := by decide +kernel
theorem dX0_stepsAt_1 : decode cX0_stepsAt 1 = .ok (.aload_n 0, 1) := by decide +kernel
theorem dX0_stepsAt_2 : decode cX0_stepsAt 2 = .ok (.getfield 18, 3) := by decide +kernel
theorem dX0_stepsAt_5 : decode cX0_stepsAt 5 = .ok (.iload_n 1, 1) := by decide +kernel
theorem dX0_stepsAt_6 : decode cX0_stepsAt 6 = .ok (.iaload, 1) := by decide +kernel
theorem dX0_stepsAt_7 : decode cX0_stepsAt 7 = .ok (.isub, 1) := by decide +kernel
theorem dX0_stepsAt_8 : decode cX0_stepsAt 8 = .ok (.istore_n 3, 1) := by decide +kernel
theorem dX0_stepsAt_9 : decode cX0_stepsAt 9 = .ok (.iload_n 3, 1) := by decide +kernel
theorem dX0_stepsAt_10 : decode cX0_stepsAt 10 = .ok (.ifCond .lt 27, 3) := by decide +kernel
theorem dX0_stepsAt_13 : decode cX0_stepsAt 13 = .ok (.aload_n 0, 1) := by decide +kernel
theorem dX0_stepsAt_14 : decode cX0_stepsAt 14 = .ok (.getfield 15, 3) := by decide +kernel
theorem dX0_stepsAt_17 : decode cX0_stepsAt 17 = .ok (.iload_n 1, 1) := by decide +kernel
theorem dX0_stepsAt_18 : decode cX0_stepsAt 18 = .ok (.iaload, 1) := by decide +kernel
theorem dX0_stepsAt_19 : decode cX0_stepsAt 19 = .ok (.ifCond .le 18, 3) := by decide +kernel
theorem dX0_stepsAt_22 : decode cX0_stepsAt 22 = .ok (.iload_n 3, 1) := by decide +kernel
theorem dX0_stepsAt_23 : decode cX0_stepsAt 23 = .ok (.aload_n 0, 1) := by decide +kernel
theorem dX0_stepsAt_24 : decode cX0_stepsAt 24 = .ok (.getfield 15, 3) := by decide +kernel
theorem dX0_stepsAt_27 : decode cX0_stepsAt 27 = .ok (.iload_n 1, 1) := by decide +kernel
theorem dX0_stepsAt_28 : decode cX0_stepsAt 28 = .ok (.iaload, 1) := by decide +kernel
theorem dX0_stepsAt_29 : decode cX0_stepsAt 29 = .ok (.irem, 1) := by decide +kernel
theorem dX0_stepsAt_30 : decode cX0_stepsAt 30 = .ok (.ifCond .ne 7, 3) := by decide +kernel
theorem dX0_stepsAt_33 : decode cX0_stepsAt 33 = .ok (.iconst 1, 1) := by decide +kernel
theorem dX0_stepsAt_34 : decode cX0_stepsAt 34 = .ok (.goto 4, 3) := by decide +kernel
theorem dX0_stepsAt_37 : decode cX0_stepsAt 37 = .ok (.iconst 0, 1) := by decide +kernel
theorem dX0_stepsAt_38 : decode cX0_stepsAt 38 = .ok (.ireturn, 1) := by decide +kernel
theorem dX0_firstCell_0 : decode cX0_firstCell 0 = .ok (.aload_n 0, 1) := by decide +kernel
theorem dX0_firstCell_1 : decode cX0_firstCell 1 = .ok (.getfield 21, 3) := by decide +kernel
theorem dX0_firstCell_4 : decode cX0_firstCell 4 = .ok (.iload_n 1, 1) := by decide +kernel
theorem dX0_firstCell_5 : decode cX0_firstCell 5 = .ok (.iaload, 1) := by decide +kernel
theorem dX0_firstCell_6 : decode cX0_firstCell 6 = .ok (.ifCond .ne 10, 3) := by decide +kernel
theorem dX0_firstCell_9 : decode cX0_firstCell 9 = .ok (.aload_n 0, 1) := by decide +kernel
theorem dX0_firstCell_10 : decode cX0_firstCell 10 = .ok (.getfield 24, 3) := by decide +kernel
theorem dX0_firstCell_13 : decode cX0_firstCell 13 = .ok (.iload_n 1, 1) := by decide +kernel
theorem dX0_firstCell_14 : decode cX0_firstCell 14 = .ok (.iaload, 1) := by decide +kernel
theorem dX0_firstCell_15 : decode cX0_firstCell 15 = .ok (.ireturn, 1) := by decide +kernel
theorem dX0_firstCell_16 : decode cX0_firstCell 16 = .ok (.aload_n 0, 1) := by decide +kernel
theorem dX0_firstCell_17 : decode cX0_firstCell 17 = .ok (.getfield 21, 3) := by decide +kernel
theorem dX0_firstCell_20 : decode cX0_firstCell 20 = .ok (.iload_n 1, 1) := by decide +kernel
theorem dX0_firstCell_21 : decode cX0_firstCell 21 = .ok (.iaload, 1) := by decide +kernel
theorem dX0_firstCell_22 : decode cX0_firstCell 22 = .ok (.ifCond .le 7, 3) := by decide +kernel
theorem dX0_firstCell_25 : decode cX0_firstCell 25 = .ok (.iconst 0, 1) := by decide +kernel
theorem dX0_firstCell_26 : decode cX0_firstCell 26 = .ok (.goto 6, 3) := by decide +kernel
theorem dX0_firstCell_29 : decode cX0_firstCell 29 = .ok (.iload_n 2, 1) := by decide +kernel
theorem dX0_firstCell_30 : decode cX0_firstCell 30 = .ok (.iconst 1, 1) := by decide +kernel
theorem dX0_firstCell_31 : decode cX0_firstCell 31 = .ok (.isub, 1) := by decide +kernel
theorem dX0_firstCell_32 : decode cX0_firstCell 32 = .ok (.ireturn, 1) := by decide +kernel
theorem dX1_init_0 : decode cX1_init 0 = .ok (.aload_n 0, 1) := by decide +kernel
theorem dX1_init_1 : decode cX1_init 1 = .ok (.invokespecial 3, 3) := by decide +kernel
theorem dX1_init_4 : decode cX1_init 4 = .ok (.aload_n 0, 1) := by decide +kernel
theorem dX1_init_5 : decode cX1_init 5 = .ok (.bipush 20, 2) := by decide +kernel
theorem dX1_init_7 : decode cX1_init 7 = .ok (.newarray .int, 2) := by decide +kernel
theorem dX1_init_9 : decode cX1_init 9 = .ok (.putfield 9, 3) := by decide +kernel
theorem dX1_init_12 : decode cX1_init 12 = .ok (.aload_n 0, 1) := by decide +kernel
theorem dX1_init_13 : decode cX1_init 13 = .ok (.bipush 20, 2) := by decide +kernel
theorem dX1_init_15 : decode cX1_init 15 = .ok (.newarray .int, 2) := by decide +kernel
theorem dX1_init_17 : decode cX1_init 17 = .ok (.putfield 15, 3) := by decide +kernel
theorem dX1_init_20 : decode cX1_init 20 = .ok (.aload_n 0, 1) := by decide +kernel
theorem dX1_init_21 : decode cX1_init 21 = .ok (.bipush 20, 2) := by decide +kernel
theorem dX1_init_23 : decode cX1_init 23 = .ok (.newarray .int, 2) := by decide +kernel
theorem dX1_init_25 : decode cX1_init 25 = .ok (.putfield 18, 3) := by decide +kernel
theorem dX1_init_28 : decode cX1_init 28 = .ok (.return_, 1) := by decide +kernel
theorem dX1_clear_0 : decode cX1_clear 0 = .ok (.aload_n 0, 1) := by decide +kernel
theorem dX1_clear_1 : decode cX1_clear 1 = .ok (.iconst 0, 1) := by decide +kernel
theorem dX1_clear_2 : decode cX1_clear 2 = .ok (.putfield 21, 3) := by decide +kernel
theorem dX1_clear_5 : decode cX1_clear 5 = .ok (.return_, 1) := by decide +kernel
theorem dX1_add_0 : decode cX1_add 0 = .ok (.aload_n 0, 1) := by decide +kernel
theorem dX1_add_1 : decode cX1_add 1 = .ok (.getfield 21, 3) := by decide +kernel
theorem dX1_add_4 : decode cX1_add 4 = .ok (.bipush 20, 2) := by decide +kernel
theorem dX1_add_6 : decode cX1_add 6 = .ok (.if_icmp .lt 7, 3) := by decide +kernel
theorem dX1_add_9 : decode cX1_add 9 = .ok (.aload_n 0, 1) := by decide +kernel
theorem dX1_add_10 : decode cX1_add 10 = .ok (.invokevirtual 25, 3) := by decide +kernel
theorem dX1_add_13 : decode cX1_add 13 = .ok (.aload_n 0, 1) := by decide +kernel
theorem dX1_add_14 : decode cX1_add 14 = .ok (.getfield 9, 3) := by decide +kernel
theorem dX1_add_17 : decode cX1_add 17 = .ok (.aload_n 0, 1) := by decide +kernel
theorem dX1_add_18 : decode cX1_add 18 = .ok (.getfield 21, 3) := by decide +kernel
theorem dX1_add_21 : decode cX1_add 21 = .ok (.iload_n 1, 1) := by decide +kernel
theorem dX1_add_22 : decode cX1_add 22 = .ok (.iastore, 1) := by decide +kernel
theorem dX1_add_23 : decode cX1_add 23 = .ok (.aload_n 0, 1) := by decide +kernel
theorem dX1_add_24 : decode cX1_add 24 = .ok (.getfield 15, 3) := by decide +kernel
theorem dX1_add_27 : decode cX1_add 27 = .ok (.aload_n 0, 1) := by decide +kernel
theorem dX1_add_28 : decode cX1_add 28 = .ok (.getfield 21, 3) := by decide +kernel
theorem dX1_add_31 : decode cX1_add 31 = .ok (.iload_n 2, 1) := by decide +kernel
theorem dX1_add_32 : decode cX1_add 32 = .ok (.iastore, 1) := by decide +kernel
theorem dX1_add_33 : decode cX1_add 33 = .ok (.aload_n 0, 1) := by decide +kernel
theorem dX1_add_34 : decode cX1_add 34 = .ok (.getfield 18, 3) := by decide +kernel
theorem dX1_add_37 : decode cX1_add 37 = .ok (.aload_n 0, 1) := by decide +kernel
theorem dX1_add_38 : decode cX1_add 38 = .ok (.getfield 21, 3) := by decide +kernel
theorem dX1_add_41 : decode cX1_add 41 = .ok (.iload_n 3, 1) := by decide +kernel
theorem dX1_add_42 : decode cX1_add 42 = .ok (.iastore, 1) := by decide +kernel
theorem dX1_add_43 : decode cX1_add 43 = .ok (.aload_n 0, 1) := by decide +kernel
theorem dX1_add_44 : decode cX1_add 44 = .ok (.dup, 1) := by decide +kernel
theorem dX1_add_45 : decode cX1_add 45 = .ok (.getfield 21, 3) := by decide +kernel
theorem dX1_add_48 : decode cX1_add 48 = .ok (.iconst 1, 1) := by decide +kernel
theorem dX1_add_49 : decode cX1_add 49 = .ok (.iadd, 1) := by decide +kernel
theorem dX1_add_50 : decode cX1_add 50 = .ok (.putfield 21, 3) := by decide +kernel
theorem dX1_add_53 : decode cX1_add 53 = .ok (.return_, 1) := by decide +kernel
theorem dX1_forgetFirst_0 : decode cX1_forgetFirst 0 = .ok (.aload_n 0, 1) := by decide +kernel
theorem dX1_forgetFirst_1 : decode cX1_forgetFirst 1 = .ok (.getfield 9, 3) := by decide +kernel
theorem dX1_forgetFirst_4 : decode cX1_forgetFirst 4 = .ok (.iconst 1, 1) := by decide +kernel
theorem dX1_forgetFirst_5 : decode cX1_forgetFirst 5 = .ok (.aload_n 0, 1) := by decide +kernel
theorem dX1_forgetFirst_6 : decode cX1_forgetFirst 6 = .ok (.getfield 9, 3) := by decide +kernel
theorem dX1_forgetFirst_9 : decode cX1_forgetFirst 9 = .ok (.iconst 0, 1) := by decide +kernel
theorem dX1_forgetFirst_10 : decode cX1_forgetFirst 10 = .ok (.bipush 19, 2) := by decide +kernel
theorem dX1_forgetFirst_12 : decode cX1_forgetFirst 12 = .ok (.invokestatic 28, 3) := by decide +kernel
theorem dX1_forgetFirst_15 : decode cX1_forgetFirst 15 = .ok (.aload_n 0, 1) := by decide +kernel
theorem dX1_forgetFirst_16 : decode cX1_forgetFirst 16 = .ok (.getfield 15, 3) := by decide +kernel
theorem dX1_forgetFirst_19 : decode cX1_forgetFirst 19 = .ok (.iconst 1, 1) := by decide +kernel
theorem dX1_forgetFirst_20 : decode cX1_forgetFirst 20 = .ok (.aload_n 0, 1) := by decide +kernel
theorem dX1_forgetFirst_21 : decode cX1_forgetFirst 21 = .ok (.getfield 15, 3) := by decide +kernel
theorem dX1_forgetFirst_24 : decode cX1_forgetFirst 24 = .ok (.iconst 0, 1) := by decide +kernel
theorem dX1_forgetFirst_25 : decode cX1_forgetFirst 25 = .ok (.bipush 19, 2) := by decide +kernel
theorem dX1_forgetFirst_27 : decode cX1_forgetFirst 27 = .ok (.invokestatic 28, 3) := by decide +kernel
theorem dX1_forgetFirst_30 : decode cX1_forgetFirst 30 = .ok (.aload_n 0, 1) := by decide +kernel
theorem dX1_forgetFirst_31 : decode cX1_forgetFirst 31 = .ok (.getfield 18, 3) := by decide +kernel
theorem dX1_forgetFirst_34 : decode cX1_forgetFirst 34 = .ok (.iconst 1, 1) := by decide +kernel
theorem dX1_forgetFirst_35 : decode cX1_forgetFirst 35 = .ok (.aload_n 0, 1) := by decide +kernel
theorem dX1_forgetFirst_36 : decode cX1_forgetFirst 36 = .ok (.getfield 18, 3) := by decide +kernel
theorem dX1_forgetFirst_39 : decode cX1_forgetFirst 39 = .ok (.iconst 0, 1) := by decide +kernel
theorem dX1_forgetFirst_40 : decode cX1_forgetFirst 40 = .ok (.bipush 19, 2) := by decide +kernel
theorem dX1_forgetFirst_42 : decode cX1_forgetFirst 42 = .ok (.invokestatic 28, 3) := by decide +kernel
theorem dX1_forgetFirst_45 : decode cX1_forgetFirst 45 = .ok (.aload_n 0, 1) := by decide +kernel
theorem dX1_forgetFirst_46 : decode cX1_forgetFirst 46 = .ok (.bipush 19, 2) := by decide +kernel
theorem dX1_forgetFirst_48 : decode cX1_forgetFirst 48 = .ok (.putfield 21, 3) := by decide +kernel
theorem dX1_forgetFirst_51 : decode cX1_forgetFirst 51 = .ok (.return_, 1) := by decide +kernel
theorem dX2_init_0 : decode cX2_init 0 = .ok (.aload_n 0, 1) := by decide +kernel
theorem dX2_init_1 : decode cX2_init 1 = .ok (.invokespecial 3, 3) := by decide +kernel
theorem dX2_init_4 : decode cX2_init 4 = .ok (.aload_n 0, 1) := by decide +kernel
theorem dX2_init_5 : decode cX2_init 5 = .ok (.bipush 8, 2) := by decide +kernel
theorem dX2_init_7 : decode cX2_init 7 = .ok (.newarray .int, 2) := by decide +kernel
theorem dX2_init_9 : decode cX2_init 9 = .ok (.putfield 9, 3) := by decide +kernel
theorem dX2_init_12 : decode cX2_init 12 = .ok (.aload_n 0, 1) := by decide +kernel
theorem dX2_init_13 : decode cX2_init 13 = .ok (.bipush 8, 2) := by decide +kernel
theorem dX2_init_15 : decode cX2_init 15 = .ok (.newarray .int, 2) := by decide +kernel
theorem dX2_init_17 : decode cX2_init 17 = .ok (.putfield 15, 3) := by decide +kernel
theorem dX2_init_20 : decode cX2_init 20 = .ok (.return_, 1) := by decide +kernel
theorem dX2_add_0 : decode cX2_add 0 = .ok (.aload_n 0, 1) := by decide +kernel
theorem dX2_add_1 : decode cX2_add 1 = .ok (.getfield 18, 3) := by decide +kernel
theorem dX2_add_4 : decode cX2_add 4 = .ok (.bipush 8, 2) := by decide +kernel
theorem dX2_add_6 : decode cX2_add 6 = .ok (.if_icmp .ge 33, 3) := by decide +kernel
theorem dX2_add_9 : decode cX2_add 9 = .ok (.aload_n 0, 1) := by decide +kernel
theorem dX2_add_10 : decode cX2_add 10 = .ok (.getfield 9, 3) := by decide +kernel
theorem dX2_add_13 : decode cX2_add 13 = .ok (.aload_n 0, 1) := by decide +kernel
theorem dX2_add_14 : decode cX2_add 14 = .ok (.getfield 18, 3) := by decide +kernel
theorem dX2_add_17 : decode cX2_add 17 = .ok (.iload_n 1, 1) := by decide +kernel
theorem dX2_add_18 : decode cX2_add 18 = .ok (.iastore, 1) := by decide +kernel
theorem dX2_add_19 : decode cX2_add 19 = .ok (.aload_n 0, 1) := by decide +kernel
theorem dX2_add_20 : decode cX2_add 20 = .ok (.getfield 15, 3) := by decide +kernel
theorem dX2_add_23 : decode cX2_add 23 = .ok (.aload_n 0, 1) := by decide +kernel
theorem dX2_add_24 : decode cX2_add 24 = .ok (.getfield 18, 3) := by decide +kernel
theorem dX2_add_27 : decode cX2_add 27 = .ok (.iload_n 2, 1) := by decide +kernel
theorem dX2_add_28 : decode cX2_add 28 = .ok (.iastore, 1) := by decide +kernel
theorem dX2_add_29 : decode cX2_add 29 = .ok (.aload_n 0, 1) := by decide +kernel
theorem dX2_add_30 : decode cX2_add 30 = .ok (.dup, 1) := by decide +kernel
theorem dX2_add_31 : decode cX2_add 31 = .ok (.getfield 18, 3) := by decide +kernel
theorem dX2_add_34 : decode cX2_add 34 = .ok (.iconst 1, 1) := by decide +kernel
theorem dX2_add_35 : decode cX2_add 35 = .ok (.iadd, 1) := by decide +kernel
theorem dX2_add_36 : decode cX2_add 36 = .ok (.putfield 18, 3) := by decide +kernel
theorem dX2_add_39 : decode cX2_add 39 = .ok (.return_, 1) := by decide +kernel
theorem dX2_standsAt_0 : decode cX2_standsAt 0 = .ok (.iconst 0, 1) := by decide +kernel
theorem dX2_standsAt_1 : decode cX2_standsAt 1 = .ok (.istore_n 2, 1) := by decide +kernel
theorem dX2_standsAt_2 : decode cX2_standsAt 2 = .ok (.iload_n 2, 1) := by decide +kernel
theorem dX2_standsAt_3 : decode cX2_standsAt 3 = .ok (.aload_n 0, 1) := by decide +kernel
theorem dX2_standsAt_4 : decode cX2_standsAt 4 = .ok (.getfield 18, 3) := by decide +kernel
theorem dX2_standsAt_7 : decode cX2_standsAt 7 = .ok (.if_icmp .ge 21, 3) := by decide +kernel
theorem dX2_standsAt_10 : decode cX2_standsAt 10 = .ok (.aload_n 0, 1) := by decide +kernel
theorem dX2_standsAt_11 : decode cX2_standsAt 11 = .ok (.getfield 9, 3) := by decide +kernel
theorem dX2_standsAt_14 : decode cX2_standsAt 14 = .ok (.iload_n 2, 1) := by decide +kernel
theorem dX2_standsAt_15 : decode cX2_standsAt 15 = .ok (.iaload, 1) := by decide +kernel
theorem dX2_standsAt_16 : decode cX2_standsAt 16 = .ok (.iload_n 1, 1) := by decide +kernel
theorem dX2_standsAt_17 : decode cX2_standsAt 17 = .ok (.if_icmp .ne 5, 3) := by decide +kernel
theorem dX2_standsAt_20 : decode cX2_standsAt 20 = .ok (.iconst 1, 1) := by decide +kernel
theorem dX2_standsAt_21 : decode cX2_standsAt 21 = .ok (.ireturn, 1) := by decide +kernel
theorem dX2_standsAt_22 : decode cX2_standsAt 22 = .ok (.iinc 2 1, 3) := by decide +kernel
theorem dX2_standsAt_25 : decode cX2_standsAt 25 = .ok (.goto (-23), 3) := by decide +kernel
theorem dX2_standsAt_28 : decode cX2_standsAt 28 = .ok (.iconst 0, 1) := by decide +kernel
theorem dX2_standsAt_29 : decode cX2_standsAt 29 = .ok (.ireturn, 1) := by decide +kernel
theorem dX2_copy_0 : decode cX2_copy 0 = .ok (.aload_n 0, 1) := by decide +kernel
theorem dX2_copy_1 : decode cX2_copy 1 = .ok (.aload_n 1, 1) := by decide +kernel
theorem dX2_copy_2 : decode cX2_copy 2 = .ok (.getfield 18, 3) := by decide +kernel
theorem dX2_copy_5 : decode cX2_copy 5 = .ok (.putfield 18, 3) := by decide +kernel
theorem dX2_copy_8 : decode cX2_copy 8 = .ok (.aload_n 1, 1) := by decide +kernel
theorem dX2_copy_9 : decode cX2_copy 9 = .ok (.getfield 9, 3) := by decide +kernel
theorem dX2_copy_12 : decode cX2_copy 12 = .ok (.iconst 0, 1) := by decide +kernel
theorem dX2_copy_13 : decode cX2_copy 13 = .ok (.aload_n 0, 1) := by decide +kernel
theorem dX2_copy_14 : decode cX2_copy 14 = .ok (.getfield 9, 3) := by decide +kernel
theorem dX2_copy_17 : decode cX2_copy 17 = .ok (.iconst 0, 1) := by decide +kernel
theorem dX2_copy_18 : decode cX2_copy 18 = .ok (.bipush 8, 2) := by decide +kernel
theorem dX2_copy_20 : decode cX2_copy 20 = .ok (.invokestatic 22, 3) := by decide +kernel
theorem dX2_copy_23 : decode cX2_copy 23 = .ok (.aload_n 1, 1) := by decide +kernel
theorem dX2_copy_24 : decode cX2_copy 24 = .ok (.getfield 15, 3) := by decide +kernel
theorem dX2_copy_27 : decode cX2_copy 27 = .ok (.iconst 0, 1) := by decide +kernel
theorem dX2_copy_28 : decode cX2_copy 28 = .ok (.aload_n 0, 1) := by decide +kernel
theorem dX2_copy_29 : decode cX2_copy 29 = .ok (.getfield 15, 3) := by decide +kernel
theorem dX2_copy_32 : decode cX2_copy 32 = .ok (.iconst 0, 1) := by decide +kernel
theorem dX2_copy_33 : decode cX2_copy 33 = .ok (.bipush 8, 2) := by decide +kernel
theorem dX2_copy_35 : decode cX2_copy 35 = .ok (.invokestatic 22, 3) := by decide +kernel
theorem dX2_copy_38 : decode cX2_copy 38 = .ok (.return_, 1) := by decide +kernel
theorem dX3_init_0 : decode cX3_init 0 = .ok (.aload_n 0, 1) := by decide +kernel
theorem dX3_init_1 : decode cX3_init 1 = .ok (.invokespecial 3, 3) := by decide +kernel
theorem dX3_init_4 : decode cX3_init 4 = .ok (.aload_n 0, 1) := by decide +kernel
theorem dX3_init_5 : decode cX3_init 5 = .ok (.bipush 72, 2) := by decide +kernel
theorem dX3_init_7 : decode cX3_init 7 = .ok (.newarray .int, 2) := by decide +kernel
theorem dX3_init_9 : decode cX3_init 9 = .ok (.putfield 9, 3) := by decide +kernel
theorem dX3_init_12 : decode cX3_init 12 = .ok (.aload_n 0, 1) := by decide +kernel
theorem dX3_init_13 : decode cX3_init 13 = .ok (.aload_n 1, 1) := by decide +kernel
theorem dX3_init_14 : decode cX3_init 14 = .ok (.putfield 15, 3) := by decide +kernel
theorem dX3_init_17 : decode cX3_init 17 = .ok (.return_, 1) := by decide +kernel
theorem dX3_read_0 : decode cX3_read 0 = .ok (.aload_n 0, 1) := by decide +kernel
theorem dX3_read_1 : decode cX3_read 1 = .ok (.aload_n 1, 1) := by decide +kernel
theorem dX3_read_2 : decode cX3_read 2 = .ok (.putfield 19, 3) := by decide +kernel
theorem dX3_read_5 : decode cX3_read 5 = .ok (.aload_n 0, 1) := by decide +kernel
theorem dX3_read_6 : decode cX3_read 6 = .ok (.aload_n 2, 1) := by decide +kernel
theorem dX3_read_7 : decode cX3_read 7 = .ok (.putfield 23, 3) := by decide +kernel
theorem dX3_read_10 : decode cX3_read 10 = .ok (.aload_n 0, 1) := by decide +kernel
theorem dX3_read_11 : decode cX3_read 11 = .ok (.getfield 23, 3) := by decide +kernel
theorem dX3_read_14 : decode cX3_read 14 = .ok (.iconst 0, 1) := by decide +kernel
theorem dX3_read_15 : decode cX3_read 15 = .ok (.putfield 27, 3) := by decide +kernel
theorem dX3_read_18 : decode cX3_read 18 = .ok (.aload_n 0, 1) := by decide +kernel
theorem dX3_read_19 : decode cX3_read 19 = .ok (.iconst 0, 1) := by decide +kernel
theorem dX3_read_20 : decode cX3_read 20 = .ok (.putfield 33, 3) := by decide +kernel
theorem dX3_read_23 : decode cX3_read 23 = .ok (.aload_n 0, 1) := by decide +kernel
theorem dX3_read_24 : decode cX3_read 24 = .ok (.iconst 0, 1) := by decide +kernel
theorem dX3_read_25 : decode cX3_read 25 = .ok (.putfield 36, 3) := by decide +kernel
theorem dX3_read_28 : decode cX3_read 28 = .ok (.aload_n 0, 1) := by decide +kernel
theorem dX3_read_29 : decode cX3_read 29 = .ok (.iconst 0, 1) := by decide +kernel
theorem dX3_read_30 : decode cX3_read 30 = .ok (.putfield 39, 3) := by decide +kernel
theorem dX3_read_33 : decode cX3_read 33 = .ok (.aload_n 0, 1) := by decide +kernel
theorem dX3_read_34 : decode cX3_read 34 = .ok (.iconst 1, 1) := by decide +kernel
theorem dX3_read_35 : decode cX3_read 35 = .ok (.putfield 42, 3) := by decide +kernel
theorem dX3_read_38 : decode cX3_read 38 = .ok (.aload_n 0, 1) := by decide +kernel
theorem dX3_read_39 : decode cX3_read 39 = .ok (.iconst 1, 1) := by decide +kernel
theorem dX3_read_40 : decode cX3_read 40 = .ok (.putfield 46, 3) := by decide +kernel
theorem dX3_read_43 : decode cX3_read 43 = .ok (.iconst 0, 1) := by decide +kernel
theorem dX3_read_44 : decode cX3_read 44 = .ok (.istore_n 3, 1) := by decide +kernel
theorem dX3_read_45 : decode cX3_read 45 = .ok (.iload_n 3, 1) := by decide +kernel
theorem dX3_read_46 : decode cX3_read 46 = .ok (.sipush 700, 3) := by decide +kernel
theorem dX3_read_49 : decode cX3_read 49 = .ok (.if_icmp .gt 91, 3) := by decide +kernel
theorem dX3_read_52 : decode cX3_read 52 = .ok (.aload_n 0, 1) := by decide +kernel
theorem dX3_read_53 : decode cX3_read 53 = .ok (.getfield 42, 3) := by decide +kernel
theorem dX3_read_56 : decode cX3_read 56 = .ok (.ifCond .ne 29, 3) := by decide +kernel
theorem dX3_read_59 : decode cX3_read 59 = .ok (.aload_n 0, 1) := by decide +kernel
theorem dX3_read_60 : decode cX3_read 60 = .ok (.getfield 36, 3) := by decide +kernel
theorem dX3_read_63 : decode cX3_read 63 = .ok (.ifCond .ne 22, 3) := by decide +kernel
theorem dX3_read_66 : decode cX3_read 66 = .ok (.aload_n 0, 1) := by decide +kernel
theorem dX3_read_67 : decode cX3_read 67 = .ok (.getfield 15, 3) := by decide +kernel
theorem dX3_read_70 : decode cX3_read 70 = .ok (.getfield 49, 3) := by decide +kernel
theorem dX3_read_73 : decode cX3_read 73 = .ok (.bipush 37, 2) := by decide +kernel
theorem dX3_read_75 : decode cX3_read 75 = .ok (.if_icmp .ne 10, 3) := by decide +kernel
theorem dX3_read_78 : decode cX3_read 78 = .ok (.aload_n 0, 1) := by decide +kernel
theorem dX3_read_79 : decode cX3_read 79 = .ok (.iconst 1, 1) := by decide +kernel
theorem dX3_read_80 : decode cX3_read 80 = .ok (.invokevirtual 54, 3) := by decide +kernel
theorem dX3_read_83 : decode cX3_read 83 = .ok (.iconst 0, 1) := by decide +kernel
theorem dX3_read_84 : decode cX3_read 84 = .ok (.ireturn, 1) := by decide +kernel
theorem dX3_read_85 : decode cX3_read 85 = .ok (.aload_n 0, 1) := by decide +kernel
theorem dX3_read_86 : decode cX3_read 86 = .ok (.getfield 42, 3) := by decide +kernel
theorem dX3_read_89 : decode cX3_read 89 = .ok (.ifCond .eq 17, 3) := by decide +kernel
theorem dX3_read_92 : decode cX3_read 92 = .ok (.aload_n 0, 1) := by decide +kernel
theorem dX3_read_93 : decode cX3_read 93 = .ok (.aload_n 0, 1) := by decide +kernel
theorem dX3_read_94 : decode cX3_read 94 = .ok (.getfield 15, 3) := by decide +kernel
theorem dX3_read_97 : decode cX3_read 97 = .ok (.getfield 49, 3) := by decide +kernel
theorem dX3_read_100 : decode cX3_read 100 = .ok (.invokevirtual 58, 3) := by decide +kernel
theorem dX3_read_103 : decode cX3_read 103 = .ok (.goto 14, 3) := by decide +kernel
theorem dX3_read_106 : decode cX3_read 106 = .ok (.aload_n 0, 1) := by decide +kernel
theorem dX3_read_107 : decode cX3_read 107 = .ok (.aload_n 0, 1) := by decide +kernel
theorem dX3_read_108 : decode cX3_read 108 = .ok (.getfield 15, 3) := by decide +kernel
theorem dX3_read_111 : decode cX3_read 111 = .ok (.getfield 49, 3) := by decide +kernel
theorem dX3_read_114 : decode cX3_read 114 = .ok (.invokevirtual 62, 3) := by decide +kernel
theorem dX3_read_117 : decode cX3_read 117 = .ok (.istore 4, 2) := by decide +kernel
theorem dX3_read_119 : decode cX3_read 119 = .ok (.iload 4, 2) := by decide +kernel
theorem dX3_read_121 : decode cX3_read 121 = .ok (.ifCond .eq 6, 3) := by decide +kernel
theorem dX3_read_124 : decode cX3_read 124 = .ok (.iload 4, 2) := by decide +kernel
theorem dX3_read_126 : decode cX3_read 126 = .ok (.ireturn, 1) := by decide +kernel
theorem dX3_read_127 : decode cX3_read 127 = .ok (.aload_n 0, 1) := by decide +kernel
theorem dX3_read_128 : decode cX3_read 128 = .ok (.getfield 15, 3) := by decide +kernel
theorem dX3_read_131 : decode cX3_read 131 = .ok (.invokevirtual 65, 3) := by decide +kernel
theorem dX3_read_134 : decode cX3_read 134 = .ok (.iinc 3 1, 3) := by decide +kernel
theorem dX3_read_137 : decode cX3_read 137 = .ok (.goto (-92), 3) := by decide +kernel
theorem dX3_read_140 : decode cX3_read 140 = .ok (.iconst 1, 1) := by decide +kernel
theorem dX3_read_141 : decode cX3_read 141 = .ok (.ireturn, 1) := by decide +kernel
theorem dX3_readOperand_0 : decode cX3_readOperand 0 = .ok (.iload_n 1, 1) := by decide +kernel
theorem dX3_readOperand_1 : decode cX3_readOperand 1 = .ok (.bipush 35, 2) := by decide +kernel
theorem dX3_readOperand_3 : decode cX3_readOperand 3 = .ok (.if_icmp .ne 8, 3) := by decide +kernel
theorem dX3_readOperand_6 : decode cX3_readOperand 6 = .ok (.aload_n 0, 1) := by decide +kernel
theorem dX3_readOperand_7 : decode cX3_readOperand 7 = .ok (.invokevirtual 68, 3) := by decide +kernel
theorem dX3_readOperand_10 : decode cX3_readOperand 10 = .ok (.ireturn, 1) := by decide +kernel
theorem dX3_readOperand_11 : decode cX3_readOperand 11 = .ok (.iload_n 1, 1) := by decide +kernel
theorem dX3_readOperand_12 : decode cX3_readOperand 12 = .ok (.bipush 38, 2) := by decide +kernel
theorem dX3_readOperand_14 : decode cX3_readOperand 14 = .ok (.if_icmp .eq 15, 3) := by decide +kernel
theorem dX3_readOperand_17 : decode cX3_readOperand 17 = .ok (.iload_n 1, 1) := by decide +kernel
theorem dX3_readOperand_18 : decode cX3_readOperand 18 = .ok (.bipush 19, 2) := by decide +kernel
theorem dX3_readOperand_20 : decode cX3_readOperand 20 = .ok (.if_icmp .lt 13, 3) := by decide +kernel
theorem dX3_readOperand_23 : decode cX3_readOperand 23 = .ok (.iload_n 1, 1) := by decide +kernel
theorem dX3_readOperand_24 : decode cX3_readOperand 24 = .ok (.bipush 24, 2) := by decide +kernel
theorem dX3_readOperand_26 : decode cX3_readOperand 26 = .ok (.if_icmp .gt 7, 3) := by decide +kernel
theorem dX3_readOperand_29 : decode cX3_readOperand 29 = .ok (.iconst 1, 1) := by decide +kernel
theorem dX3_readOperand_30 : decode cX3_readOperand 30 = .ok (.goto 4, 3) := by decide +kernel
theorem dX3_readOperand_33 : decode cX3_readOperand 33 = .ok (.iconst 0, 1) := by decide +kernel
theorem dX3_readOperand_34 : decode cX3_readOperand 34 = .ok (.istore_n 2, 1) := by decide +kernel
theorem dX3_readOperand_35 : decode cX3_readOperand 35 = .ok (.iload_n 2, 1) := by decide +kernel
theorem dX3_readOperand_36 : decode cX3_readOperand 36 = .ok (.ifCond .ne 18, 3) := by decide +kernel
theorem dX3_readOperand_39 : decode cX3_readOperand 39 = .ok (.iload_n 1, 1) := by decide +kernel
theorem dX3_readOperand_40 : decode cX3_readOperand 40 = .ok (.bipush 18, 2) := by decide +kernel
theorem dX3_readOperand_42 : decode cX3_readOperand 42 = .ok (.if_icmp .ne 10, 3) := by decide +kernel
theorem dX3_readOperand_45 : decode cX3_readOperand 45 = .ok (.aload_n 0, 1) := by decide +kernel
theorem dX3_readOperand_46 : decode cX3_readOperand 46 = .ok (.getfield 46, 3) := by decide +kernel
theorem dX3_readOperand_49 : decode cX3_readOperand 49 = .ok (.ifCond .ne 5, 3) := by decide +kernel
theorem dX3_readOperand_52 : decode cX3_readOperand 52 = .ok (.iconst 1, 1) := by decide +kernel
theorem dX3_readOperand_53 : decode cX3_readOperand 53 = .ok (.ireturn, 1) := by decide +kernel
theorem dX3_readOperand_54 : decode cX3_readOperand 54 = .ok (.aload_n 0, 1) := by decide +kernel
theorem dX3_readOperand_55 : decode cX3_readOperand 55 = .ok (.getfield 19, 3) := by decide +kernel
theorem dX3_readOperand_58 : decode cX3_readOperand 58 = .ok (.getfield 72, 3) := by decide +kernel
theorem dX3_readOperand_61 : decode cX3_readOperand 61 = .ok (.bipush 64, 2) := by decide +kernel
theorem dX3_readOperand_63 : decode cX3_readOperand 63 = .ok (.if_icmp .ge 22, 3) := by decide +kernel
theorem dX3_readOperand_66 : decode cX3_readOperand 66 = .ok (.iload_n 1, 1) := by decide +kernel
theorem dX3_readOperand_67 : decode cX3_readOperand 67 = .ok (.bipush 38, 2) := by decide +kernel
theorem dX3_readOperand_69 : decode cX3_readOperand 69 = .ok (.if_icmp .ne 18, 3) := by decide +kernel
theorem dX3_readOperand_72 : decode cX3_readOperand 72 = .ok (.aload_n 0, 1) := by decide +kernel
theorem dX3_readOperand_73 : decode cX3_readOperand 73 = .ok (.getfield 15, 3) := by decide +kernel
theorem dX3_readOperand_76 : decode cX3_readOperand 76 = .ok (.getfield 77, 3) := by decide +kernel
theorem dX3_readOperand_79 : decode cX3_readOperand 79 = .ok (.sipush 9999, 3) := by decide +kernel
theorem dX3_readOperand_82 : decode cX3_readOperand 82 = .ok (.if_icmp .le 5, 3) := by decide +kernel
theorem dX3_readOperand_85 : decode cX3_readOperand 85 = .ok (.iconst 2, 1) := by decide +kernel
theorem dX3_readOperand_86 : decode cX3_readOperand 86 = .ok (.ireturn, 1) := by decide +kernel
theorem dX3_readOperand_87 : decode cX3_readOperand 87 = .ok (.aload_n 0, 1) := by decide +kernel
theorem dX3_readOperand_88 : decode cX3_readOperand 88 = .ok (.getfield 19, 3) := by decide +kernel
theorem dX3_readOperand_91 : decode cX3_readOperand 91 = .ok (.dup, 1) := by decide +kernel
theorem dX3_readOperand_92 : decode cX3_readOperand 92 = .ok (.getfield 72, 3) := by decide +kernel
theorem dX3_readOperand_95 : decode cX3_readOperand 95 = .ok (.iconst 1, 1) := by decide +kernel
theorem dX3_readOperand_96 : decode cX3_readOperand 96 = .ok (.iadd, 1) := by decide +kernel
theorem dX3_readOperand_97 : decode cX3_readOperand 97 = .ok (.putfield 72, 3) := by decide +kernel
theorem dX3_readOperand_100 : decode cX3_readOperand 100 = .ok (.iload_n 1, 1) := by decide +kernel
theorem dX3_readOperand_101 : decode cX3_readOperand 101 = .ok (.bipush 18, 2) := by decide +kernel
theorem dX3_readOperand_103 : decode cX3_readOperand 103 = .ok (.if_icmp .ne 12, 3) := by decide +kernel
theorem dX3_readOperand_106 : decode cX3_readOperand 106 = .ok (.aload_n 0, 1) := by decide +kernel
theorem dX3_readOperand_107 : decode cX3_readOperand 107 = .ok (.bipush 18, 2) := by decide +kernel
theorem dX3_readOperand_109 : decode cX3_readOperand 109 = .ok (.invokevirtual 80, 3) := by decide +kernel
theorem dX3_readOperand_112 : decode cX3_readOperand 112 = .ok (.goto 36, 3) := by decide +kernel
theorem dX3_readOperand_115 : decode cX3_readOperand 115 = .ok (.iload_n 1, 1) := by decide +kernel
theorem dX3_readOperand_116 : decode cX3_readOperand 116 = .ok (.bipush 38, 2) := by decide +kernel
theorem dX3_readOperand_118 : decode cX3_readOperand 118 = .ok (.if_icmp .ne 20, 3) := by decide +kernel
theorem dX3_readOperand_121 : decode cX3_readOperand 121 = .ok (.aload_n 0, 1) := by decide +kernel
theorem dX3_readOperand_122 : decode cX3_readOperand 122 = .ok (.getfield 23, 3) := by decide +kernel
theorem dX3_readOperand_125 : decode cX3_readOperand 125 = .ok (.aload_n 0, 1) := by decide +kernel
theorem dX3_readOperand_126 : decode cX3_readOperand 126 = .ok (.getfield 15, 3) := by decide +kernel
theorem dX3_readOperand_129 : decode cX3_readOperand 129 = .ok (.getfield 77, 3) := by decide +kernel
theorem dX3_readOperand_132 : decode cX3_readOperand 132 = .ok (.invokevirtual 83, 3) := by decide +kernel
theorem dX3_readOperand_135 : decode cX3_readOperand 135 = .ok (.goto 13, 3) := by decide +kernel
theorem dX3_readOperand_138 : decode cX3_readOperand 138 = .ok (.aload_n 0, 1) := by decide +kernel
theorem dX3_readOperand_139 : decode cX3_readOperand 139 = .ok (.getfield 23, 3) := by decide +kernel
theorem dX3_readOperand_142 : decode cX3_readOperand 142 = .ok (.iconst (-1), 1) := by decide +kernel
theorem dX3_readOperand_143 : decode cX3_readOperand 143 = .ok (.iload_n 1, 1) := by decide +kernel
theorem dX3_readOperand_144 : decode cX3_readOperand 144 = .ok (.isub, 1) := by decide +kernel
theorem dX3_readOperand_145 : decode cX3_readOperand 145 = .ok (.invokevirtual 83, 3) := by decide +kernel
theorem dX3_readOperand_148 : decode cX3_readOperand 148 = .ok (.aload_n 0, 1) := by decide +kernel
theorem dX3_readOperand_149 : decode cX3_readOperand 149 = .ok (.iload_n 2, 1) := by decide +kernel
theorem dX3_readOperand_150 : decode cX3_readOperand 150 = .ok (.ifCond .ne 7, 3) := by decide +kernel
theorem dX3_readOperand_153 : decode cX3_readOperand 153 = .ok (.iconst 1, 1) := by decide +kernel
theorem dX3_readOperand_154 : decode cX3_readOperand 154 = .ok (.goto 4, 3) := by decide +kernel
theorem dX3_readOperand_157 : decode cX3_readOperand 157 = .ok (.iconst 0, 1) := by decide +kernel
theorem dX3_readOperand_158 : decode cX3_readOperand 158 = .ok (.putfield 42, 3) := by decide +kernel
theorem dX3_readOperand_161 : decode cX3_readOperand 161 = .ok (.iconst 0, 1) := by decide +kernel
theorem dX3_readOperand_162 : decode cX3_readOperand 162 = .ok (.ireturn, 1) := by decide +kernel
theorem dX3_readOpen_0 : decode cX3_readOpen 0 = .ok (.aload_n 0, 1) := by decide +kernel
theorem dX3_readOpen_1 : decode cX3_readOpen 1 = .ok (.getfield 36, 3) := by decide +kernel
theorem dX3_readOpen_4 : decode cX3_readOpen 4 = .ok (.bipush 8, 2) := by decide +kernel
theorem dX3_readOpen_6 : decode cX3_readOpen 6 = .ok (.if_icmp .lt 5, 3) := by decide +kernel
theorem dX3_readOpen_9 : decode cX3_readOpen 9 = .ok (.iconst 2, 1) := by decide +kernel
theorem dX3_readOpen_10 : decode cX3_readOpen 10 = .ok (.ireturn, 1) := by decide +kernel
theorem dX3_readOpen_11 : decode cX3_readOpen 11 = .ok (.aload_n 0, 1) := by decide +kernel
theorem dX3_readOpen_12 : decode cX3_readOpen 12 = .ok (.dup, 1) := by decide +kernel
theorem dX3_readOpen_13 : decode cX3_readOpen 13 = .ok (.getfield 36, 3) := by decide +kernel
theorem dX3_readOpen_16 : decode cX3_readOpen 16 = .ok (.iconst 1, 1) := by decide +kernel
theorem dX3_readOpen_17 : decode cX3_readOpen 17 = .ok (.iadd, 1) := by decide +kernel
theorem dX3_readOpen_18 : decode cX3_readOpen 18 = .ok (.putfield 36, 3) := by decide +kernel
theorem dX3_readOpen_21 : decode cX3_readOpen 21 = .ok (.aload_n 0, 1) := by decide +kernel
theorem dX3_readOpen_22 : decode cX3_readOpen 22 = .ok (.dup, 1) := by decide +kernel
theorem dX3_readOpen_23 : decode cX3_readOpen 23 = .ok (.getfield 39, 3) := by decide +kernel
theorem dX3_readOpen_26 : decode cX3_readOpen 26 = .ok (.iconst 1, 1) := by decide +kernel
theorem dX3_readOpen_27 : decode cX3_readOpen 27 = .ok (.aload_n 0, 1) := by decide +kernel
theorem dX3_readOpen_28 : decode cX3_readOpen 28 = .ok (.getfield 36, 3) := by decide +kernel
theorem dX3_readOpen_31 : decode cX3_readOpen 31 = .ok (.ishl, 1) := by decide +kernel
theorem dX3_readOpen_32 : decode cX3_readOpen 32 = .ok (.iconst (-1), 1) := by decide +kernel
theorem dX3_readOpen_33 : decode cX3_readOpen 33 = .ok (.ixor, 1) := by decide +kernel
theorem dX3_readOpen_34 : decode cX3_readOpen 34 = .ok (.iand, 1) := by decide +kernel
theorem dX3_readOpen_35 : decode cX3_readOpen 35 = .ok (.putfield 39, 3) := by decide +kernel
theorem dX3_readOpen_38 : decode cX3_readOpen 38 = .ok (.aload_n 0, 1) := by decide +kernel
theorem dX3_readOpen_39 : decode cX3_readOpen 39 = .ok (.bipush 35, 2) := by decide +kernel
theorem dX3_readOpen_41 : decode cX3_readOpen 41 = .ok (.invokevirtual 80, 3) := by decide +kernel
theorem dX3_readOpen_44 : decode cX3_readOpen 44 = .ok (.aload_n 0, 1) := by decide +kernel
theorem dX3_readOpen_45 : decode cX3_readOpen 45 = .ok (.iconst 1, 1) := by decide +kernel
theorem dX3_readOpen_46 : decode cX3_readOpen 46 = .ok (.putfield 46, 3) := by decide +kernel
theorem dX3_readOpen_49 : decode cX3_readOpen 49 = .ok (.iconst 0, 1) := by decide +kernel
theorem dX3_readOpen_50 : decode cX3_readOpen 50 = .ok (.ireturn, 1) := by decide +kernel
theorem dX3_readSign_0 : decode cX3_readSign 0 = .ok (.iload_n 1, 1) := by decide +kernel
theorem dX3_readSign_1 : decode cX3_readSign 1 = .ok (.bipush 36, 2) := by decide +kernel
theorem dX3_readSign_3 : decode cX3_readSign 3 = .ok (.if_icmp .ne 41, 3) := by decide +kernel
theorem dX3_readSign_6 : decode cX3_readSign 6 = .ok (.aload_n 0, 1) := by decide +kernel
theorem dX3_readSign_7 : decode cX3_readSign 7 = .ok (.getfield 36, 3) := by decide +kernel
theorem dX3_readSign_10 : decode cX3_readSign 10 = .ok (.ifCond .le 34, 3) := by decide +kernel
theorem dX3_readSign_13 : decode cX3_readSign 13 = .ok (.aload_n 0, 1) := by decide +kernel
theorem dX3_readSign_14 : decode cX3_readSign 14 = .ok (.iconst 1, 1) := by decide +kernel
theorem dX3_readSign_15 : decode cX3_readSign 15 = .ok (.invokevirtual 54, 3) := by decide +kernel
theorem dX3_readSign_18 : decode cX3_readSign 18 = .ok (.aload_n 0, 1) := by decide +kernel
theorem dX3_readSign_19 : decode cX3_readSign 19 = .ok (.iconst 0, 1) := by decide +kernel
theorem dX3_readSign_20 : decode cX3_readSign 20 = .ok (.aload_n 0, 1) := by decide +kernel
theorem dX3_readSign_21 : decode cX3_readSign 21 = .ok (.getfield 33, 3) := by decide +kernel
theorem dX3_readSign_24 : decode cX3_readSign 24 = .ok (.iconst 1, 1) := by decide +kernel
theorem dX3_readSign_25 : decode cX3_readSign 25 = .ok (.isub, 1) := by decide +kernel
theorem dX3_readSign_26 : decode cX3_readSign 26 = .ok (.invokestatic 86, 3) := by decide +kernel
theorem dX3_readSign_29 : decode cX3_readSign 29 = .ok (.putfield 33, 3) := by decide +kernel
theorem dX3_readSign_32 : decode cX3_readSign 32 = .ok (.aload_n 0, 1) := by decide +kernel
theorem dX3_readSign_33 : decode cX3_readSign 33 = .ok (.dup, 1) := by decide +kernel
theorem dX3_readSign_34 : decode cX3_readSign 34 = .ok (.getfield 36, 3) := by decide +kernel
theorem dX3_readSign_37 : decode cX3_readSign 37 = .ok (.iconst 1, 1) := by decide +kernel
theorem dX3_readSign_38 : decode cX3_readSign 38 = .ok (.isub, 1) := by decide +kernel
theorem dX3_readSign_39 : decode cX3_readSign 39 = .ok (.putfield 36, 3) := by decide +kernel
theorem dX3_readSign_42 : decode cX3_readSign 42 = .ok (.iconst 0, 1) := by decide +kernel
theorem dX3_readSign_43 : decode cX3_readSign 43 = .ok (.ireturn, 1) := by decide +kernel
theorem dX3_readSign_44 : decode cX3_readSign 44 = .ok (.iload_n 1, 1) := by decide +kernel
theorem dX3_readSign_45 : decode cX3_readSign 45 = .ok (.invokestatic 92, 3) := by decide +kernel
theorem dX3_readSign_48 : decode cX3_readSign 48 = .ok (.istore_n 2, 1) := by decide +kernel
theorem dX3_readSign_49 : decode cX3_readSign 49 = .ok (.iload_n 2, 1) := by decide +kernel
theorem dX3_readSign_50 : decode cX3_readSign 50 = .ok (.iconst 4, 1) := by decide +kernel
theorem dX3_readSign_51 : decode cX3_readSign 51 = .ok (.if_icmp .ne 7, 3) := by decide +kernel
theorem dX3_readSign_54 : decode cX3_readSign 54 = .ok (.iconst 1, 1) := by decide +kernel
theorem dX3_readSign_55 : decode cX3_readSign 55 = .ok (.goto 4, 3) := by decide +kernel
theorem dX3_readSign_58 : decode cX3_readSign 58 = .ok (.iconst 0, 1) := by decide +kernel
theorem dX3_readSign_59 : decode cX3_readSign 59 = .ok (.istore_n 3, 1) := by decide +kernel
theorem dX3_readSign_60 : decode cX3_readSign 60 = .ok (.iload_n 2, 1) := by decide +kernel
theorem dX3_readSign_61 : decode cX3_readSign 61 = .ok (.ifCond .eq 28, 3) := by decide +kernel
theorem dX3_readSign_64 : decode cX3_readSign 64 = .ok (.iload_n 1, 1) := by decide +kernel
theorem dX3_readSign_65 : decode cX3_readSign 65 = .ok (.bipush 18, 2) := by decide +kernel
theorem dX3_readSign_67 : decode cX3_readSign 67 = .ok (.if_icmp .eq 22, 3) := by decide +kernel
theorem dX3_readSign_70 : decode cX3_readSign 70 = .ok (.iload_n 3, 1) := by decide +kernel
theorem dX3_readSign_71 : decode cX3_readSign 71 = .ok (.ifCond .eq 20, 3) := by decide +kernel
theorem dX3_readSign_74 : decode cX3_readSign 74 = .ok (.aload_n 0, 1) := by decide +kernel
theorem dX3_readSign_75 : decode cX3_readSign 75 = .ok (.getfield 39, 3) := by decide +kernel
theorem dX3_readSign_78 : decode cX3_readSign 78 = .ok (.aload_n 0, 1) := by decide +kernel
theorem dX3_readSign_79 : decode cX3_readSign 79 = .ok (.getfield 36, 3) := by decide +kernel
theorem dX3_readSign_82 : decode cX3_readSign 82 = .ok (.ishr, 1) := by decide +kernel
theorem dX3_readSign_83 : decode cX3_readSign 83 = .ok (.iconst 1, 1) := by decide +kernel
theorem dX3_readSign_84 : decode cX3_readSign 84 = .ok (.iand, 1) := by decide +kernel
theorem dX3_readSign_85 : decode cX3_readSign 85 = .ok (.iconst 1, 1) := by decide +kernel
theorem dX3_readSign_86 : decode cX3_readSign 86 = .ok (.if_icmp .ne 5, 3) := by decide +kernel
theorem dX3_readSign_89 : decode cX3_readSign 89 = .ok (.iconst 1, 1) := by decide +kernel
theorem dX3_readSign_90 : decode cX3_readSign 90 = .ok (.ireturn, 1) := by decide +kernel
theorem dX3_readSign_91 : decode cX3_readSign 91 = .ok (.aload_n 0, 1) := by decide +kernel
theorem dX3_readSign_92 : decode cX3_readSign 92 = .ok (.getfield 19, 3) := by decide +kernel
theorem dX3_readSign_95 : decode cX3_readSign 95 = .ok (.getfield 72, 3) := by decide +kernel
theorem dX3_readSign_98 : decode cX3_readSign 98 = .ok (.bipush 64, 2) := by decide +kernel
theorem dX3_readSign_100 : decode cX3_readSign 100 = .ok (.if_icmp .lt 5, 3) := by decide +kernel
theorem dX3_readSign_103 : decode cX3_readSign 103 = .ok (.iconst 2, 1) := by decide +kernel
theorem dX3_readSign_104 : decode cX3_readSign 104 = .ok (.ireturn, 1) := by decide +kernel
theorem dX3_readSign_105 : decode cX3_readSign 105 = .ok (.aload_n 0, 1) := by decide +kernel
theorem dX3_readSign_106 : decode cX3_readSign 106 = .ok (.getfield 19, 3) := by decide +kernel
theorem dX3_readSign_109 : decode cX3_readSign 109 = .ok (.dup, 1) := by decide +kernel
theorem dX3_readSign_110 : decode cX3_readSign 110 = .ok (.getfield 72, 3) := by decide +kernel
theorem dX3_readSign_113 : decode cX3_readSign 113 = .ok (.iconst 1, 1) := by decide +kernel
theorem dX3_readSign_114 : decode cX3_readSign 114 = .ok (.iadd, 1) := by decide +kernel
theorem dX3_readSign_115 : decode cX3_readSign 115 = .ok (.putfield 72, 3) := by decide +kernel
theorem dX3_readSign_118 : decode cX3_readSign 118 = .ok (.aload_n 0, 1) := by decide +kernel
theorem dX3_readSign_119 : decode cX3_readSign 119 = .ok (.iload_n 2, 1) := by decide +kernel
theorem dX3_readSign_120 : decode cX3_readSign 120 = .ok (.invokevirtual 54, 3) := by decide +kernel
theorem dX3_readSign_123 : decode cX3_readSign 123 = .ok (.aload_n 0, 1) := by decide +kernel
theorem dX3_readSign_124 : decode cX3_readSign 124 = .ok (.iload_n 1, 1) := by decide +kernel
theorem dX3_readSign_125 : decode cX3_readSign 125 = .ok (.invokevirtual 80, 3) := by decide +kernel
theorem dX3_readSign_128 : decode cX3_readSign 128 = .ok (.aload_n 0, 1) := by decide +kernel
theorem dX3_readSign_129 : decode cX3_readSign 129 = .ok (.iload_n 1, 1) := by decide +kernel
theorem dX3_readSign_130 : decode cX3_readSign 130 = .ok (.bipush 17, 2) := by decide +kernel
theorem dX3_readSign_132 : decode cX3_readSign 132 = .ok (.if_icmp .eq 9, 3) := by decide +kernel
theorem dX3_readSign_135 : decode cX3_readSign 135 = .ok (.iload_n 1, 1) := by decide +kernel
theorem dX3_readSign_136 : decode cX3_readSign 136 = .ok (.bipush 16, 2) := by decide +kernel
theorem dX3_readSign_138 : decode cX3_readSign 138 = .ok (.if_icmp .ne 7, 3) := by decide +kernel
theorem dX3_readSign_141 : decode cX3_readSign 141 = .ok (.iconst 1, 1) := by decide +kernel
theorem dX3_readSign_142 : decode cX3_readSign 142 = .ok (.goto 4, 3) := by decide +kernel
theorem dX3_readSign_145 : decode cX3_readSign 145 = .ok (.iconst 0, 1) := by decide +kernel
theorem dX3_readSign_146 : decode cX3_readSign 146 = .ok (.putfield 46, 3) := by decide +kernel
theorem dX3_readSign_149 : decode cX3_readSign 149 = .ok (.iload_n 3, 1) := by decide +kernel
theorem dX3_readSign_150 : decode cX3_readSign 150 = .ok (.ifCond .eq 21, 3) := by decide +kernel
theorem dX3_readSign_153 : decode cX3_readSign 153 = .ok (.aload_n 0, 1) := by decide +kernel
theorem dX3_readSign_154 : decode cX3_readSign 154 = .ok (.dup, 1) := by decide +kernel
theorem dX3_readSign_155 : decode cX3_readSign 155 = .ok (.getfield 39, 3) := by decide +kernel
theorem dX3_readSign_158 : decode cX3_readSign 158 = .ok (.iconst 1, 1) := by decide +kernel
theorem dX3_readSign_159 : decode cX3_readSign 159 = .ok (.aload_n 0, 1) := by decide +kernel
theorem dX3_readSign_160 : decode cX3_readSign 160 = .ok (.getfield 36, 3) := by decide +kernel
theorem dX3_readSign_163 : decode cX3_readSign 163 = .ok (.ishl, 1) := by decide +kernel
theorem dX3_readSign_164 : decode cX3_readSign 164 = .ok (.ior, 1) := by decide +kernel
theorem dX3_readSign_165 : decode cX3_readSign 165 = .ok (.putfield 39, 3) := by decide +kernel
theorem dX3_readSign_168 : decode cX3_readSign 168 = .ok (.goto 27, 3) := by decide +kernel
theorem dX3_readSign_171 : decode cX3_readSign 171 = .ok (.aload_n 0, 1) := by decide +kernel
theorem dX3_readSign_172 : decode cX3_readSign 172 = .ok (.getfield 46, 3) := by decide +kernel
theorem dX3_readSign_175 : decode cX3_readSign 175 = .ok (.ifCond .eq 20, 3) := by decide +kernel
theorem dX3_readSign_178 : decode cX3_readSign 178 = .ok (.aload_n 0, 1) := by decide +kernel
theorem dX3_readSign_179 : decode cX3_readSign 179 = .ok (.dup, 1) := by decide +kernel
theorem dX3_readSign_180 : decode cX3_readSign 180 = .ok (.getfield 39, 3) := by decide +kernel
theorem dX3_readSign_183 : decode cX3_readSign 183 = .ok (.iconst 1, 1) := by decide +kernel
theorem dX3_readSign_184 : decode cX3_readSign 184 = .ok (.aload_n 0, 1) := by decide +kernel
theorem dX3_readSign_185 : decode cX3_readSign 185 = .ok (.getfield 36, 3) := by decide +kernel
theorem dX3_readSign_188 : decode cX3_readSign 188 = .ok (.ishl, 1) := by decide +kernel
theorem dX3_readSign_189 : decode cX3_readSign 189 = .ok (.iconst (-1), 1) := by decide +kernel
theorem dX3_readSign_190 : decode cX3_readSign 190 = .ok (.ixor, 1) := by decide +kernel
theorem dX3_readSign_191 : decode cX3_readSign 191 = .ok (.iand, 1) := by decide +kernel
theorem dX3_readSign_192 : decode cX3_readSign 192 = .ok (.putfield 39, 3) := by decide +kernel
theorem dX3_readSign_195 : decode cX3_readSign 195 = .ok (.aload_n 0, 1) := by decide +kernel
theorem dX3_readSign_196 : decode cX3_readSign 196 = .ok (.iconst 1, 1) := by decide +kernel
theorem dX3_readSign_197 : decode cX3_readSign 197 = .ok (.putfield 42, 3) := by decide +kernel
theorem dX3_readSign_200 : decode cX3_readSign 200 = .ok (.iconst 0, 1) := by decide +kernel
theorem dX3_readSign_201 : decode cX3_readSign 201 = .ok (.ireturn, 1) := by decide +kernel
theorem dX3_await_0 : decode cX3_await 0 = .ok (.aload_n 0, 1) := by decide +kernel
theorem dX3_await_1 : decode cX3_await 1 = .ok (.getfield 33, 3) := by decide +kernel
theorem dX3_await_4 : decode cX3_await 4 = .ok (.aload_n 0, 1) := by decide +kernel
theorem dX3_await_5 : decode cX3_await 5 = .ok (.getfield 9, 3) := by decide +kernel
theorem dX3_await_8 : decode cX3_await 8 = .ok (.arraylength, 1) := by decide +kernel
theorem dX3_await_9 : decode cX3_await 9 = .ok (.if_icmp .ge 23, 3) := by decide +kernel
theorem dX3_await_12 : decode cX3_await 12 = .ok (.aload_n 0, 1) := by decide +kernel
theorem dX3_await_13 : decode cX3_await 13 = .ok (.getfield 9, 3) := by decide +kernel
theorem dX3_await_16 : decode cX3_await 16 = .ok (.aload_n 0, 1) := by decide +kernel
theorem dX3_await_17 : decode cX3_await 17 = .ok (.getfield 33, 3) := by decide +kernel
theorem dX3_await_20 : decode cX3_await 20 = .ok (.iload_n 1, 1) := by decide +kernel
theorem dX3_await_21 : decode cX3_await 21 = .ok (.iastore, 1) := by decide +kernel
theorem dX3_await_22 : decode cX3_await 22 = .ok (.aload_n 0, 1) := by decide +kernel
theorem dX3_await_23 : decode cX3_await 23 = .ok (.dup, 1) := by decide +kernel
theorem dX3_await_24 : decode cX3_await 24 = .ok (.getfield 33, 3) := by decide +kernel
theorem dX3_await_27 : decode cX3_await 27 = .ok (.iconst 1, 1) := by decide +kernel
theorem dX3_await_28 : decode cX3_await 28 = .ok (.iadd, 1) := by decide +kernel
theorem dX3_await_29 : decode cX3_await 29 = .ok (.putfield 33, 3) := by decide +kernel
theorem dX3_await_32 : decode cX3_await 32 = .ok (.return_, 1) := by decide +kernel
theorem dX3_putDown_0 : decode cX3_putDown 0 = .ok (.aload_n 0, 1) := by decide +kernel
theorem dX3_putDown_1 : decode cX3_putDown 1 = .ok (.getfield 33, 3) := by decide +kernel
theorem dX3_putDown_4 : decode cX3_putDown 4 = .ok (.ifCond .le 52, 3) := by decide +kernel
theorem dX3_putDown_7 : decode cX3_putDown 7 = .ok (.aload_n 0, 1) := by decide +kernel
theorem dX3_putDown_8 : decode cX3_putDown 8 = .ok (.getfield 9, 3) := by decide +kernel
theorem dX3_putDown_11 : decode cX3_putDown 11 = .ok (.aload_n 0, 1) := by decide +kernel
theorem dX3_putDown_12 : decode cX3_putDown 12 = .ok (.getfield 33, 3) := by decide +kernel
theorem dX3_putDown_15 : decode cX3_putDown 15 = .ok (.iconst 1, 1) := by decide +kernel
theorem dX3_putDown_16 : decode cX3_putDown 16 = .ok (.isub, 1) := by decide +kernel
theorem dX3_putDown_17 : decode cX3_putDown 17 = .ok (.iaload, 1) := by decide +kernel
theorem dX3_putDown_18 : decode cX3_putDown 18 = .ok (.invokestatic 92, 3) := by decide +kernel
theorem dX3_putDown_21 : decode cX3_putDown 21 = .ok (.iload_n 1, 1) := by decide +kernel
theorem dX3_putDown_22 : decode cX3_putDown 22 = .ok (.if_icmp .lt 34, 3) := by decide +kernel
theorem dX3_putDown_25 : decode cX3_putDown 25 = .ok (.aload_n 0, 1) := by decide +kernel
theorem dX3_putDown_26 : decode cX3_putDown 26 = .ok (.dup, 1) := by decide +kernel
theorem dX3_putDown_27 : decode cX3_putDown 27 = .ok (.getfield 33, 3) := by decide +kernel
theorem dX3_putDown_30 : decode cX3_putDown 30 = .ok (.iconst 1, 1) := by decide +kernel
theorem dX3_putDown_31 : decode cX3_putDown 31 = .ok (.isub, 1) := by decide +kernel
theorem dX3_putDown_32 : decode cX3_putDown 32 = .ok (.putfield 33, 3) := by decide +kernel
theorem dX3_putDown_35 : decode cX3_putDown 35 = .ok (.aload_n 0, 1) := by decide +kernel
theorem dX3_putDown_36 : decode cX3_putDown 36 = .ok (.getfield 23, 3) := by decide +kernel
theorem dX3_putDown_39 : decode cX3_putDown 39 = .ok (.iconst (-1), 1) := by decide +kernel
theorem dX3_putDown_40 : decode cX3_putDown 40 = .ok (.aload_n 0, 1) := by decide +kernel
theorem dX3_putDown_41 : decode cX3_putDown 41 = .ok (.getfield 9, 3) := by decide +kernel
theorem dX3_putDown_44 : decode cX3_putDown 44 = .ok (.aload_n 0, 1) := by decide +kernel
theorem dX3_putDown_45 : decode cX3_putDown 45 = .ok (.getfield 33, 3) := by decide +kernel
theorem dX3_putDown_48 : decode cX3_putDown 48 = .ok (.iaload, 1) := by decide +kernel
theorem dX3_putDown_49 : decode cX3_putDown 49 = .ok (.isub, 1) := by decide +kernel
theorem dX3_putDown_50 : decode cX3_putDown 50 = .ok (.invokevirtual 83, 3) := by decide +kernel
theorem dX3_putDown_53 : decode cX3_putDown 53 = .ok (.goto (-53), 3) := by decide +kernel
theorem dX3_putDown_56 : decode cX3_putDown 56 = .ok (.return_, 1) := by decide +kernel
theorem dX3_bindingOf_0 : decode cX3_bindingOf 0 = .ok (.iload_n 0, 1) := by decide +kernel
theorem dX3_bindingOf_1 : decode cX3_bindingOf 1 = .ok (.tableswitch 102 16 34 #[91, 93, 95, 102, 102, 102, 102, 102, 102, 102, 102, 102, 102, 102, 102, 97, 97, 99, 99], 91) := by decide +kernel
theorem dX3_bindingOf_92 : decode cX3_bindingOf 92 = .ok (.iconst 1, 1) := by decide +kernel
theorem dX3_bindingOf_93 : decode cX3_bindingOf 93 = .ok (.ireturn, 1) := by decide +kernel
theorem dX3_bindingOf_94 : decode cX3_bindingOf 94 = .ok (.iconst 2, 1) := by decide +kernel
theorem dX3_bindingOf_95 : decode cX3_bindingOf 95 = .ok (.ireturn, 1) := by decide +kernel
theorem dX3_bindingOf_96 : decode cX3_bindingOf 96 = .ok (.iconst 3, 1) := by decide +kernel
theorem dX3_bindingOf_97 : decode cX3_bindingOf 97 = .ok (.ireturn, 1) := by decide +kernel
theorem dX3_bindingOf_98 : decode cX3_bindingOf 98 = .ok (.iconst 5, 1) := by decide +kernel
theorem dX3_bindingOf_99 : decode cX3_bindingOf 99 = .ok (.ireturn, 1) := by decide +kernel
theorem dX3_bindingOf_100 : decode cX3_bindingOf 100 = .ok (.bipush 6, 2) := by decide +kernel
theorem dX3_bindingOf_102 : decode cX3_bindingOf 102 = .ok (.ireturn, 1) := by decide +kernel
theorem dX3_bindingOf_103 : decode cX3_bindingOf 103 = .ok (.iload_n 0, 1) := by decide +kernel
theorem dX3_bindingOf_104 : decode cX3_bindingOf 104 = .ok (.bipush 25, 2) := by decide +kernel
theorem dX3_bindingOf_106 : decode cX3_bindingOf 106 = .ok (.if_icmp .lt 13, 3) := by decide +kernel
theorem dX3_bindingOf_109 : decode cX3_bindingOf 109 = .ok (.iload_n 0, 1) := by decide +kernel
theorem dX3_bindingOf_110 : decode cX3_bindingOf 110 = .ok (.bipush 30, 2) := by decide +kernel
theorem dX3_bindingOf_112 : decode cX3_bindingOf 112 = .ok (.if_icmp .gt 7, 3) := by decide +kernel
theorem dX3_bindingOf_115 : decode cX3_bindingOf 115 = .ok (.iconst 4, 1) := by decide +kernel
theorem dX3_bindingOf_116 : decode cX3_bindingOf 116 = .ok (.goto 4, 3) := by decide +kernel
theorem dX3_bindingOf_119 : decode cX3_bindingOf 119 = .ok (.iconst 0, 1) := by decide +kernel
theorem dX3_bindingOf_120 : decode cX3_bindingOf 120 = .ok (.ireturn, 1) := by decide +kernel
theorem dX4_init_0 : decode cX4_init 0 = .ok (.aload_n 0, 1) := by decide +kernel
theorem dX4_init_1 : decode cX4_init 1 = .ok (.invokespecial 3, 3) := by decide +kernel
theorem dX4_init_4 : decode cX4_init 4 = .ok (.aload_n 0, 1) := by decide +kernel
theorem dX4_init_5 : decode cX4_init 5 = .ok (.iconst (-1), 1) := by decide +kernel
theorem dX4_init_6 : decode cX4_init 6 = .ok (.putfield 9, 3) := by decide +kernel
theorem dX4_init_9 : decode cX4_init 9 = .ok (.aload_n 0, 1) := by decide +kernel
theorem dX4_init_10 : decode cX4_init 10 = .ok (.bipush 24, 2) := by decide +kernel
theorem dX4_init_12 : decode cX4_init 12 = .ok (.newarray .int, 2) := by decide +kernel
theorem dX4_init_14 : decode cX4_init 14 = .ok (.putfield 15, 3) := by decide +kernel
theorem dX4_init_17 : decode cX4_init 17 = .ok (.aload_n 0, 1) := by decide +kernel
theorem dX4_init_18 : decode cX4_init 18 = .ok (.bipush 24, 2) := by decide +kernel
theorem dX4_init_20 : decode cX4_init 20 = .ok (.newarray .int, 2) := by decide +kernel
theorem dX4_init_22 : decode cX4_init 22 = .ok (.putfield 19, 3) := by decide +kernel
theorem dX4_init_25 : decode cX4_init 25 = .ok (.aload_n 0, 1) := by decide +kernel
theorem dX4_init_26 : decode cX4_init 26 = .ok (.bipush 24, 2) := by decide +kernel
theorem dX4_init_28 : decode cX4_init 28 = .ok (.newarray .int, 2) := by decide +kernel
theorem dX4_init_30 : decode cX4_init 30 = .ok (.putfield 22, 3) := by decide +kernel
theorem dX4_init_33 : decode cX4_init 33 = .ok (.aload_n 0, 1) := by decide +kernel
theorem dX4_init_34 : decode cX4_init 34 = .ok (.bipush 24, 2) := by decide +kernel
theorem dX4_init_36 : decode cX4_init 36 = .ok (.newarray .boolean, 2) := by decide +kernel
theorem dX4_init_38 : decode cX4_init 38 = .ok (.putfield 25, 3) := by decide +kernel
theorem dX4_init_41 : decode cX4_init 41 = .ok (.aload_n 0, 1) := by decide +kernel
theorem dX4_init_42 : decode cX4_init 42 = .ok (.bipush 24, 2) := by decide +kernel
theorem dX4_init_44 : decode cX4_init 44 = .ok (.newarray .int, 2) := by decide +kernel
theorem dX4_init_46 : decode cX4_init 46 = .ok (.putfield 29, 3) := by decide +kernel
theorem dX4_init_49 : decode cX4_init 49 = .ok (.return_, 1) := by decide +kernel
theorem dX4_clear_0 : decode cX4_clear 0 = .ok (.aload_n 0, 1) := by decide +kernel
theorem dX4_clear_1 : decode cX4_clear 1 = .ok (.iconst 0, 1) := by decide +kernel
theorem dX4_clear_2 : decode cX4_clear 2 = .ok (.putfield 32, 3) := by decide +kernel
theorem dX4_clear_5 : decode cX4_clear 5 = .ok (.aload_n 0, 1) := by decide +kernel
theorem dX4_clear_6 : decode cX4_clear 6 = .ok (.iconst (-1), 1) := by decide +kernel
theorem dX4_clear_7 : decode cX4_clear 7 = .ok (.putfield 9, 3) := by decide +kernel
theorem dX4_clear_10 : decode cX4_clear 10 = .ok (.return_, 1) := by decide +kernel
theorem dX4_add_0 : decode cX4_add 0 = .ok (.aload_n 0, 1) := by decide +kernel
theorem dX4_add_1 : decode cX4_add 1 = .ok (.getfield 32, 3) := by decide +kernel
theorem dX4_add_4 : decode cX4_add 4 = .ok (.bipush 24, 2) := by decide +kernel
theorem dX4_add_6 : decode cX4_add 6 = .ok (.if_icmp .lt 5, 3) := by decide +kernel
theorem dX4_add_9 : decode cX4_add 9 = .ok (.iconst (-1), 1) := by decide +kernel
theorem dX4_add_10 : decode cX4_add 10 = .ok (.ireturn, 1) := by decide +kernel
theorem dX4_add_11 : decode cX4_add 11 = .ok (.aload_n 0, 1) := by decide +kernel
theorem dX4_add_12 : decode cX4_add 12 = .ok (.getfield 15, 3) := by decide +kernel
theorem dX4_add_15 : decode cX4_add 15 = .ok (.aload_n 0, 1) := by decide +kernel
theorem dX4_add_16 : decode cX4_add 16 = .ok (.getfield 32, 3) := by decide +kernel
theorem dX4_add_19 : decode cX4_add 19 = .ok (.iload_n 1, 1) := by decide +kernel
theorem dX4_add_20 : decode cX4_add 20 = .ok (.iastore, 1) := by decide +kernel
theorem dX4_add_21 : decode cX4_add 21 = .ok (.aload_n 0, 1) := by decide +kernel
theorem dX4_add_22 : decode cX4_add 22 = .ok (.getfield 19, 3) := by decide +kernel
theorem dX4_add_25 : decode cX4_add 25 = .ok (.aload_n 0, 1) := by decide +kernel
theorem dX4_add_26 : decode cX4_add 26 = .ok (.getfield 32, 3) := by decide +kernel
theorem dX4_add_29 : decode cX4_add 29 = .ok (.iload_n 2, 1) := by decide +kernel
theorem dX4_add_30 : decode cX4_add 30 = .ok (.iastore, 1) := by decide +kernel
theorem dX4_add_31 : decode cX4_add 31 = .ok (.aload_n 0, 1) := by decide +kernel
theorem dX4_add_32 : decode cX4_add 32 = .ok (.getfield 22, 3) := by decide +kernel
theorem dX4_add_35 : decode cX4_add 35 = .ok (.aload_n 0, 1) := by decide +kernel
theorem dX4_add_36 : decode cX4_add 36 = .ok (.getfield 32, 3) := by decide +kernel
theorem dX4_add_39 : decode cX4_add 39 = .ok (.iload_n 3, 1) := by decide +kernel
theorem dX4_add_40 : decode cX4_add 40 = .ok (.iastore, 1) := by decide +kernel
theorem dX4_add_41 : decode cX4_add 41 = .ok (.aload_n 0, 1) := by decide +kernel
theorem dX4_add_42 : decode cX4_add 42 = .ok (.getfield 25, 3) := by decide +kernel
theorem dX4_add_45 : decode cX4_add 45 = .ok (.aload_n 0, 1) := by decide +kernel
theorem dX4_add_46 : decode cX4_add 46 = .ok (.getfield 32, 3) := by decide +kernel
theorem dX4_add_49 : decode cX4_add 49 = .ok (.iload 4, 2) := by decide +kernel
theorem dX4_add_51 : decode cX4_add 51 = .ok (.bastore, 1) := by decide +kernel
theorem dX4_add_52 : decode cX4_add 52 = .ok (.aload_n 0, 1) := by decide +kernel
theorem dX4_add_53 : decode cX4_add 53 = .ok (.getfield 29, 3) := by decide +kernel
theorem dX4_add_56 : decode cX4_add 56 = .ok (.aload_n 0, 1) := by decide +kernel
theorem dX4_add_57 : decode cX4_add 57 = .ok (.getfield 32, 3) := by decide +kernel
theorem dX4_add_60 : decode cX4_add 60 = .ok (.iconst (-1), 1) := by decide +kernel
theorem dX4_add_61 : decode cX4_add 61 = .ok (.iastore, 1) := by decide +kernel
theorem dX4_add_62 : decode cX4_add 62 = .ok (.aload_n 0, 1) := by decide +kernel
theorem dX4_add_63 : decode cX4_add 63 = .ok (.dup, 1) := by decide +kernel
theorem dX4_add_64 : decode cX4_add 64 = .ok (.getfield 32, 3) := by decide +kernel
theorem dX4_add_67 : decode cX4_add 67 = .ok (.iconst 1, 1) := by decide +kernel
theorem dX4_add_68 : decode cX4_add 68 = .ok (.iadd, 1) := by decide +kernel
theorem dX4_add_69 : decode cX4_add 69 = .ok (.putfield 32, 3) := by decide +kernel
theorem dX4_add_72 : decode cX4_add 72 = .ok (.aload_n 0, 1) := by decide +kernel
theorem dX4_add_73 : decode cX4_add 73 = .ok (.getfield 32, 3) := by decide +kernel
theorem dX4_add_76 : decode cX4_add 76 = .ok (.iconst 1, 1) := by decide +kernel
theorem dX4_add_77 : decode cX4_add 77 = .ok (.isub, 1) := by decide +kernel
theorem dX4_add_78 : decode cX4_add 78 = .ok (.ireturn, 1) := by decide +kernel
theorem dX4_addStrike_0 : decode cX4_addStrike 0 = .ok (.iload_n 1, 1) := by decide +kernel
theorem dX4_addStrike_1 : decode cX4_addStrike 1 = .ok (.ifCond .lt 20, 3) := by decide +kernel
theorem dX4_addStrike_4 : decode cX4_addStrike 4 = .ok (.iload_n 1, 1) := by decide +kernel
theorem dX4_addStrike_5 : decode cX4_addStrike 5 = .ok (.aload_n 0, 1) := by decide +kernel
theorem dX4_addStrike_6 : decode cX4_addStrike 6 = .ok (.getfield 32, 3) := by decide +kernel
theorem dX4_addStrike_9 : decode cX4_addStrike 9 = .ok (.if_icmp .ge 12, 3) := by decide +kernel
theorem dX4_addStrike_12 : decode cX4_addStrike 12 = .ok (.aload_n 0, 1) := by decide +kernel
theorem dX4_addStrike_13 : decode cX4_addStrike 13 = .ok (.getfield 32, 3) := by decide +kernel
theorem dX4_addStrike_16 : decode cX4_addStrike 16 = .ok (.bipush 24, 2) := by decide +kernel
theorem dX4_addStrike_18 : decode cX4_addStrike 18 = .ok (.if_icmp .lt 5, 3) := by decide +kernel
theorem dX4_addStrike_21 : decode cX4_addStrike 21 = .ok (.iconst (-1), 1) := by decide +kernel
theorem dX4_addStrike_22 : decode cX4_addStrike 22 = .ok (.ireturn, 1) := by decide +kernel
theorem dX4_addStrike_23 : decode cX4_addStrike 23 = .ok (.aload_n 0, 1) := by decide +kernel
theorem dX4_addStrike_24 : decode cX4_addStrike 24 = .ok (.getfield 29, 3) := by decide +kernel
theorem dX4_addStrike_27 : decode cX4_addStrike 27 = .ok (.aload_n 0, 1) := by decide +kernel
theorem dX4_addStrike_28 : decode cX4_addStrike 28 = .ok (.getfield 32, 3) := by decide +kernel
theorem dX4_addStrike_31 : decode cX4_addStrike 31 = .ok (.iload_n 1, 1) := by decide +kernel
theorem dX4_addStrike_32 : decode cX4_addStrike 32 = .ok (.iastore, 1) := by decide +kernel
theorem dX4_addStrike_33 : decode cX4_addStrike 33 = .ok (.aload_n 0, 1) := by decide +kernel
theorem dX4_addStrike_34 : decode cX4_addStrike 34 = .ok (.dup, 1) := by decide +kernel
theorem dX4_addStrike_35 : decode cX4_addStrike 35 = .ok (.getfield 32, 3) := by decide +kernel
theorem dX4_addStrike_38 : decode cX4_addStrike 38 = .ok (.iconst 1, 1) := by decide +kernel
theorem dX4_addStrike_39 : decode cX4_addStrike 39 = .ok (.iadd, 1) := by decide +kernel
theorem dX4_addStrike_40 : decode cX4_addStrike 40 = .ok (.putfield 32, 3) := by decide +kernel
theorem dX4_addStrike_43 : decode cX4_addStrike 43 = .ok (.aload_n 0, 1) := by decide +kernel
theorem dX4_addStrike_44 : decode cX4_addStrike 44 = .ok (.getfield 32, 3) := by decide +kernel
theorem dX4_addStrike_47 : decode cX4_addStrike 47 = .ok (.iconst 1, 1) := by decide +kernel
theorem dX4_addStrike_48 : decode cX4_addStrike 48 = .ok (.isub, 1) := by decide +kernel
theorem dX4_addStrike_49 : decode cX4_addStrike 49 = .ok (.ireturn, 1) := by decide +kernel
theorem dX4_knownSize_0 : decode cX4_knownSize 0 = .ok (.aload_n 0, 1) := by decide +kernel
theorem dX4_knownSize_1 : decode cX4_knownSize 1 = .ok (.getfield 9, 3) := by decide +kernel
theorem dX4_knownSize_4 : decode cX4_knownSize 4 = .ok (.iconst (-1), 1) := by decide +kernel
theorem dX4_knownSize_5 : decode cX4_knownSize 5 = .ok (.if_icmp .ne 10, 3) := by decide +kernel
theorem dX4_knownSize_8 : decode cX4_knownSize 8 = .ok (.aload_n 0, 1) := by decide +kernel
theorem dX4_knownSize_9 : decode cX4_knownSize 9 = .ok (.getfield 32, 3) := by decide +kernel
theorem dX4_knownSize_12 : decode cX4_knownSize 12 = .ok (.goto 7, 3) := by decide +kernel
theorem dX4_knownSize_15 : decode cX4_knownSize 15 = .ok (.aload_n 0, 1) := by decide +kernel
theorem dX4_knownSize_16 : decode cX4_knownSize 16 = .ok (.getfield 9, 3) := by decide +kernel
theorem dX4_knownSize_19 : decode cX4_knownSize 19 = .ok (.ireturn, 1) := by decide +kernel
theorem dX4_knownBits_0 : decode cX4_knownBits 0 = .ok (.iconst 0, 1) := by decide +kernel
theorem dX4_knownBits_1 : decode cX4_knownBits 1 = .ok (.istore_n 1, 1) := by decide +kernel
theorem dX4_knownBits_2 : decode cX4_knownBits 2 = .ok (.iconst 0, 1) := by decide +kernel
theorem dX4_knownBits_3 : decode cX4_knownBits 3 = .ok (.istore_n 2, 1) := by decide +kernel
theorem dX4_knownBits_4 : decode cX4_knownBits 4 = .ok (.aload_n 0, 1) := by decide +kernel
theorem dX4_knownBits_5 : decode cX4_knownBits 5 = .ok (.invokevirtual 35, 3) := by decide +kernel
theorem dX4_knownBits_8 : decode cX4_knownBits 8 = .ok (.iconst 1, 1) := by decide +kernel
theorem dX4_knownBits_9 : decode cX4_knownBits 9 = .ok (.isub, 1) := by decide +kernel
theorem dX4_knownBits_10 : decode cX4_knownBits 10 = .ok (.istore_n 3, 1) := by decide +kernel
theorem dX4_knownBits_11 : decode cX4_knownBits 11 = .ok (.iload_n 3, 1) := by decide +kernel
theorem dX4_knownBits_12 : decode cX4_knownBits 12 = .ok (.ifCond .lt 51, 3) := by decide +kernel
theorem dX4_knownBits_15 : decode cX4_knownBits 15 = .ok (.iload_n 2, 1) := by decide +kernel
theorem dX4_knownBits_16 : decode cX4_knownBits 16 = .ok (.iload_n 3, 1) := by decide +kernel
theorem dX4_knownBits_17 : decode cX4_knownBits 17 = .ok (.ishr, 1) := by decide +kernel
theorem dX4_knownBits_18 : decode cX4_knownBits 18 = .ok (.iconst 1, 1) := by decide +kernel
theorem dX4_knownBits_19 : decode cX4_knownBits 19 = .ok (.iand, 1) := by decide +kernel
theorem dX4_knownBits_20 : decode cX4_knownBits 20 = .ok (.iconst 1, 1) := by decide +kernel
theorem dX4_knownBits_21 : decode cX4_knownBits 21 = .ok (.if_icmp .ne 6, 3) := by decide +kernel
theorem dX4_knownBits_24 : decode cX4_knownBits 24 = .ok (.goto 33, 3) := by decide +kernel
theorem dX4_knownBits_27 : decode cX4_knownBits 27 = .ok (.aload_n 0, 1) := by decide +kernel
theorem dX4_knownBits_28 : decode cX4_knownBits 28 = .ok (.getfield 29, 3) := by decide +kernel
theorem dX4_knownBits_31 : decode cX4_knownBits 31 = .ok (.iload_n 3, 1) := by decide +kernel
theorem dX4_knownBits_32 : decode cX4_knownBits 32 = .ok (.iaload, 1) := by decide +kernel
theorem dX4_knownBits_33 : decode cX4_knownBits 33 = .ok (.iconst (-1), 1) := by decide +kernel
theorem dX4_knownBits_34 : decode cX4_knownBits 34 = .ok (.if_icmp .ne 12, 3) := by decide +kernel
theorem dX4_knownBits_37 : decode cX4_knownBits 37 = .ok (.iload_n 1, 1) := by decide +kernel
theorem dX4_knownBits_38 : decode cX4_knownBits 38 = .ok (.iconst 1, 1) := by decide +kernel
theorem dX4_knownBits_39 : decode cX4_knownBits 39 = .ok (.iload_n 3, 1) := by decide +kernel
theorem dX4_knownBits_40 : decode cX4_knownBits 40 = .ok (.ishl, 1) := by decide +kernel
theorem dX4_knownBits_41 : decode cX4_knownBits 41 = .ok (.ior, 1) := by decide +kernel
theorem dX4_knownBits_42 : decode cX4_knownBits 42 = .ok (.istore_n 1, 1) := by decide +kernel
theorem dX4_knownBits_43 : decode cX4_knownBits 43 = .ok (.goto 14, 3) := by decide +kernel
theorem dX4_knownBits_46 : decode cX4_knownBits 46 = .ok (.iload_n 2, 1) := by decide +kernel
theorem dX4_knownBits_47 : decode cX4_knownBits 47 = .ok (.iconst 1, 1) := by decide +kernel
theorem dX4_knownBits_48 : decode cX4_knownBits 48 = .ok (.aload_n 0, 1) := by decide +kernel
theorem dX4_knownBits_49 : decode cX4_knownBits 49 = .ok (.getfield 29, 3) := by decide +kernel
theorem dX4_knownBits_52 : decode cX4_knownBits 52 = .ok (.iload_n 3, 1) := by decide +kernel
theorem dX4_knownBits_53 : decode cX4_knownBits 53 = .ok (.iaload, 1) := by decide +kernel
theorem dX4_knownBits_54 : decode cX4_knownBits 54 = .ok (.ishl, 1) := by decide +kernel
theorem dX4_knownBits_55 : decode cX4_knownBits 55 = .ok (.ior, 1) := by decide +kernel
theorem dX4_knownBits_56 : decode cX4_knownBits 56 = .ok (.istore_n 2, 1) := by decide +kernel
theorem dX4_knownBits_57 : decode cX4_knownBits 57 = .ok (.iinc 3 (-1), 3) := by decide +kernel
theorem dX4_knownBits_60 : decode cX4_knownBits 60 = .ok (.goto (-49), 3) := by decide +kernel
theorem dX4_knownBits_63 : decode cX4_knownBits 63 = .ok (.iload_n 1, 1) := by decide +kernel
theorem dX4_knownBits_64 : decode cX4_knownBits 64 = .ok (.ireturn, 1) := by decide +kernel
theorem dX4_lastTime_0 : decode cX4_lastTime 0 = .ok (.iconst (-1), 1) := by decide +kernel
theorem dX4_lastTime_1 : decode cX4_lastTime 1 = .ok (.istore_n 2, 1) := by decide +kernel
theorem dX4_lastTime_2 : decode cX4_lastTime 2 = .ok (.iconst 0, 1) := by decide +kernel
theorem dX4_lastTime_3 : decode cX4_lastTime 3 = .ok (.istore_n 3, 1) := by decide +kernel
theorem dX4_lastTime_4 : decode cX4_lastTime 4 = .ok (.iload_n 3, 1) := by decide +kernel
theorem dX4_lastTime_5 : decode cX4_lastTime 5 = .ok (.aload_n 0, 1) := by decide +kernel
theorem dX4_lastTime_6 : decode cX4_lastTime 6 = .ok (.getfield 32, 3) := by decide +kernel
theorem dX4_lastTime_9 : decode cX4_lastTime 9 = .ok (.if_icmp .ge 29, 3) := by decide +kernel
theorem dX4_lastTime_12 : decode cX4_lastTime 12 = .ok (.iload_n 1, 1) := by decide +kernel
theorem dX4_lastTime_13 : decode cX4_lastTime 13 = .ok (.iload_n 3, 1) := by decide +kernel
theorem dX4_lastTime_14 : decode cX4_lastTime 14 = .ok (.ishr, 1) := by decide +kernel
theorem dX4_lastTime_15 : decode cX4_lastTime 15 = .ok (.iconst 1, 1) := by decide +kernel
theorem dX4_lastTime_16 : decode cX4_lastTime 16 = .ok (.iand, 1) := by decide +kernel
theorem dX4_lastTime_17 : decode cX4_lastTime 17 = .ok (.iconst 1, 1) := by decide +kernel
theorem dX4_lastTime_18 : decode cX4_lastTime 18 = .ok (.if_icmp .ne 14, 3) := by decide +kernel
theorem dX4_lastTime_21 : decode cX4_lastTime 21 = .ok (.iload_n 2, 1) := by decide +kernel
theorem dX4_lastTime_22 : decode cX4_lastTime 22 = .ok (.aload_n 0, 1) := by decide +kernel
theorem dX4_lastTime_23 : decode cX4_lastTime 23 = .ok (.getfield 15, 3) := by decide +kernel
theorem dX4_lastTime_26 : decode cX4_lastTime 26 = .ok (.iload_n 3, 1) := by decide +kernel
theorem dX4_lastTime_27 : decode cX4_lastTime 27 = .ok (.iaload, 1) := by decide +kernel
theorem dX4_lastTime_28 : decode cX4_lastTime 28 = .ok (.invokestatic 39, 3) := by decide +kernel
theorem dX4_lastTime_31 : decode cX4_lastTime 31 = .ok (.istore_n 2, 1) := by decide +kernel
theorem dX4_lastTime_32 : decode cX4_lastTime 32 = .ok (.iinc 3 1, 3) := by decide +kernel
theorem dX4_lastTime_35 : decode cX4_lastTime 35 = .ok (.goto (-31), 3) := by decide +kernel
theorem dX4_lastTime_38 : decode cX4_lastTime 38 = .ok (.iload_n 2, 1) := by decide +kernel
theorem dX4_lastTime_39 : decode cX4_lastTime 39 = .ok (.ireturn, 1) := by decide +kernel
theorem dX4_areSo_0 : decode cX4_areSo 0 = .ok (.iconst 0, 1) := by decide +kernel
theorem dX4_areSo_1 : decode cX4_areSo 1 = .ok (.istore 4, 2) := by decide +kernel
theorem dX4_areSo_3 : decode cX4_areSo 3 = .ok (.iload 4, 2) := by decide +kernel
theorem dX4_areSo_5 : decode cX4_areSo 5 = .ok (.aload_n 0, 1) := by decide +kernel
theorem dX4_areSo_6 : decode cX4_areSo 6 = .ok (.getfield 32, 3) := by decide +kernel
theorem dX4_areSo_9 : decode cX4_areSo 9 = .ok (.if_icmp .ge 69, 3) := by decide +kernel
theorem dX4_areSo_12 : decode cX4_areSo 12 = .ok (.iload_n 1, 1) := by decide +kernel
theorem dX4_areSo_13 : decode cX4_areSo 13 = .ok (.iload 4, 2) := by decide +kernel
theorem dX4_areSo_15 : decode cX4_areSo 15 = .ok (.ishr, 1) := by decide +kernel
theorem dX4_areSo_16 : decode cX4_areSo 16 = .ok (.iconst 1, 1) := by decide +kernel
theorem dX4_areSo_17 : decode cX4_areSo 17 = .ok (.iand, 1) := by decide +kernel
theorem dX4_areSo_18 : decode cX4_areSo 18 = .ok (.iconst 1, 1) := by decide +kernel
theorem dX4_areSo_19 : decode cX4_areSo 19 = .ok (.if_icmp .ne 53, 3) := by decide +kernel
theorem dX4_areSo_22 : decode cX4_areSo 22 = .ok (.aload_n 0, 1) := by decide +kernel
theorem dX4_areSo_23 : decode cX4_areSo 23 = .ok (.getfield 15, 3) := by decide +kernel
theorem dX4_areSo_26 : decode cX4_areSo 26 = .ok (.iload 4, 2) := by decide +kernel
theorem dX4_areSo_28 : decode cX4_areSo 28 = .ok (.iaload, 1) := by decide +kernel
theorem dX4_areSo_29 : decode cX4_areSo 29 = .ok (.iload_n 2, 1) := by decide +kernel
theorem dX4_areSo_30 : decode cX4_areSo 30 = .ok (.if_icmp .ne 42, 3) := by decide +kernel
theorem dX4_areSo_33 : decode cX4_areSo 33 = .ok (.aload_n 3, 1) := by decide +kernel
theorem dX4_areSo_34 : decode cX4_areSo 34 = .ok (.aload_n 0, 1) := by decide +kernel
theorem dX4_areSo_35 : decode cX4_areSo 35 = .ok (.getfield 19, 3) := by decide +kernel
theorem dX4_areSo_38 : decode cX4_areSo 38 = .ok (.iload 4, 2) := by decide +kernel
theorem dX4_areSo_40 : decode cX4_areSo 40 = .ok (.iaload, 1) := by decide +kernel
theorem dX4_areSo_41 : decode cX4_areSo 41 = .ok (.iaload, 1) := by decide +kernel
theorem dX4_areSo_42 : decode cX4_areSo 42 = .ok (.invokestatic 45, 3) := by decide +kernel
theorem dX4_areSo_45 : decode cX4_areSo 45 = .ok (.aload_n 0, 1) := by decide +kernel
theorem dX4_areSo_46 : decode cX4_areSo 46 = .ok (.getfield 22, 3) := by decide +kernel
theorem dX4_areSo_49 : decode cX4_areSo 49 = .ok (.iload 4, 2) := by decide +kernel
theorem dX4_areSo_51 : decode cX4_areSo 51 = .ok (.iaload, 1) := by decide +kernel
theorem dX4_areSo_52 : decode cX4_areSo 52 = .ok (.if_icmp .lt 7, 3) := by decide +kernel
theorem dX4_areSo_55 : decode cX4_areSo 55 = .ok (.iconst 1, 1) := by decide +kernel
theorem dX4_areSo_56 : decode cX4_areSo 56 = .ok (.goto 4, 3) := by decide +kernel
theorem dX4_areSo_59 : decode cX4_areSo 59 = .ok (.iconst 0, 1) := by decide +kernel
theorem dX4_areSo_60 : decode cX4_areSo 60 = .ok (.aload_n 0, 1) := by decide +kernel
theorem dX4_areSo_61 : decode cX4_areSo 61 = .ok (.getfield 25, 3) := by decide +kernel
theorem dX4_areSo_64 : decode cX4_areSo 64 = .ok (.iload 4, 2) := by decide +kernel
theorem dX4_areSo_66 : decode cX4_areSo 66 = .ok (.baload, 1) := by decide +kernel
theorem dX4_areSo_67 : decode cX4_areSo 67 = .ok (.if_icmp .eq 5, 3) := by decide +kernel
theorem dX4_areSo_70 : decode cX4_areSo 70 = .ok (.iconst 0, 1) := by decide +kernel
theorem dX4_areSo_71 : decode cX4_areSo 71 = .ok (.ireturn, 1) := by decide +kernel
theorem dX4_areSo_72 : decode cX4_areSo 72 = .ok (.iinc 4 1, 3) := by decide +kernel
theorem dX4_areSo_75 : decode cX4_areSo 75 = .ok (.goto (-72), 3) := by decide +kernel
theorem dX4_areSo_78 : decode cX4_areSo 78 = .ok (.iconst 1, 1) := by decide +kernel
theorem dX4_areSo_79 : decode cX4_areSo 79 = .ok (.ireturn, 1) := by decide +kernel
theorem dX5_init_0 : decode cX5_init 0 = .ok (.aload_n 0, 1) := by decide +kernel
theorem dX5_init_1 : decode cX5_init 1 = .ok (.invokespecial 3, 3) := by decide +kernel
theorem dX5_init_4 : decode cX5_init 4 = .ok (.aload_n 0, 1) := by decide +kernel
theorem dX5_init_5 : decode cX5_init 5 = .ok (.bipush 64, 2) := by decide +kernel
theorem dX5_init_7 : decode cX5_init 7 = .ok (.newarray .int, 2) := by decide +kernel
theorem dX5_init_9 : decode cX5_init 9 = .ok (.putfield 9, 3) := by decide +kernel
theorem dX5_init_12 : decode cX5_init 12 = .ok (.aload_n 0, 1) := by decide +kernel
theorem dX5_init_13 : decode cX5_init 13 = .ok (.bipush 64, 2) := by decide +kernel
theorem dX5_init_15 : decode cX5_init 15 = .ok (.newarray .long, 2) := by decide +kernel
theorem dX5_init_17 : decode cX5_init 17 = .ok (.putfield 15, 3) := by decide +kernel
theorem dX5_init_20 : decode cX5_init 20 = .ok (.return_, 1) := by decide +kernel
theorem dX5_addKnot_0 : decode cX5_addKnot 0 = .ok (.aload_n 0, 1) := by decide +kernel
theorem dX5_addKnot_1 : decode cX5_addKnot 1 = .ok (.getfield 19, 3) := by decide +kernel
theorem dX5_addKnot_4 : decode cX5_addKnot 4 = .ok (.bipush 64, 2) := by decide +kernel
theorem dX5_addKnot_6 : decode cX5_addKnot 6 = .ok (.if_icmp .ge 23, 3) := by decide +kernel
theorem dX5_addKnot_9 : decode cX5_addKnot 9 = .ok (.aload_n 0, 1) := by decide +kernel
theorem dX5_addKnot_10 : decode cX5_addKnot 10 = .ok (.getfield 9, 3) := by decide +kernel
theorem dX5_addKnot_13 : decode cX5_addKnot 13 = .ok (.aload_n 0, 1) := by decide +kernel
theorem dX5_addKnot_14 : decode cX5_addKnot 14 = .ok (.getfield 19, 3) := by decide +kernel
theorem dX5_addKnot_17 : decode cX5_addKnot 17 = .ok (.iload_n 1, 1) := by decide +kernel
theorem dX5_addKnot_18 : decode cX5_addKnot 18 = .ok (.iastore, 1) := by decide +kernel
theorem dX5_addKnot_19 : decode cX5_addKnot 19 = .ok (.aload_n 0, 1) := by decide +kernel
theorem dX5_addKnot_20 : decode cX5_addKnot 20 = .ok (.dup, 1) := by decide +kernel
theorem dX5_addKnot_21 : decode cX5_addKnot 21 = .ok (.getfield 19, 3) := by decide +kernel
theorem dX5_addKnot_24 : decode cX5_addKnot 24 = .ok (.iconst 1, 1) := by decide +kernel
theorem dX5_addKnot_25 : decode cX5_addKnot 25 = .ok (.iadd, 1) := by decide +kernel
theorem dX5_addKnot_26 : decode cX5_addKnot 26 = .ok (.putfield 19, 3) := by decide +kernel
theorem dX5_addKnot_29 : decode cX5_addKnot 29 = .ok (.return_, 1) := by decide +kernel
theorem dX5_value_0 : decode cX5_value 0 = .ok (.iconst 0, 1) := by decide +kernel
theorem dX5_value_1 : decode cX5_value 1 = .ok (.istore_n 2, 1) := by decide +kernel
theorem dX5_value_2 : decode cX5_value 2 = .ok (.iconst 0, 1) := by decide +kernel
theorem dX5_value_3 : decode cX5_value 3 = .ok (.istore_n 3, 1) := by decide +kernel
theorem dX5_value_4 : decode cX5_value 4 = .ok (.iload_n 3, 1) := by decide +kernel
theorem dX5_value_5 : decode cX5_value 5 = .ok (.aload_n 0, 1) := by decide +kernel
theorem dX5_value_6 : decode cX5_value 6 = .ok (.getfield 19, 3) := by decide +kernel
theorem dX5_value_9 : decode cX5_value 9 = .ok (.if_icmp .ge 185, 3) := by decide +kernel
theorem dX5_value_12 : decode cX5_value 12 = .ok (.iconst (-1), 1) := by decide +kernel
theorem dX5_value_13 : decode cX5_value 13 = .ok (.aload_n 0, 1) := by decide +kernel
theorem dX5_value_14 : decode cX5_value 14 = .ok (.getfield 9, 3) := by decide +kernel
theorem dX5_value_17 : decode cX5_value 17 = .ok (.iload_n 3, 1) := by decide +kernel
theorem dX5_value_18 : decode cX5_value 18 = .ok (.iaload, 1) := by decide +kernel
theorem dX5_value_19 : decode cX5_value 19 = .ok (.isub, 1) := by decide +kernel
theorem dX5_value_20 : decode cX5_value 20 = .ok (.istore 4, 2) := by decide +kernel
theorem dX5_value_22 : decode cX5_value 22 = .ok (.iload 4, 2) := by decide +kernel
theorem dX5_value_24 : decode cX5_value 24 = .ok (.ifCond .ge 22, 3) := by decide +kernel
theorem dX5_value_27 : decode cX5_value 27 = .ok (.aload_n 0, 1) := by decide +kernel
theorem dX5_value_28 : decode cX5_value 28 = .ok (.getfield 15, 3) := by decide +kernel
theorem dX5_value_31 : decode cX5_value 31 = .ok (.iload_n 2, 1) := by decide +kernel
theorem dX5_value_32 : decode cX5_value 32 = .ok (.aload_n 0, 1) := by decide +kernel
theorem dX5_value_33 : decode cX5_value 33 = .ok (.getfield 9, 3) := by decide +kernel
theorem dX5_value_36 : decode cX5_value 36 = .ok (.iload_n 3, 1) := by decide +kernel
theorem dX5_value_37 : decode cX5_value 37 = .ok (.iaload, 1) := by decide +kernel
theorem dX5_value_38 : decode cX5_value 38 = .ok (.i2l, 1) := by decide +kernel
theorem dX5_value_39 : decode cX5_value 39 = .ok (.lastore, 1) := by decide +kernel
theorem dX5_value_40 : decode cX5_value 40 = .ok (.iinc 2 1, 3) := by decide +kernel
theorem dX5_value_43 : decode cX5_value 43 = .ok (.goto 145, 3) := by decide +kernel
theorem dX5_value_46 : decode cX5_value 46 = .ok (.iload 4, 2) := by decide +kernel
theorem dX5_value_48 : decode cX5_value 48 = .ok (.bipush 19, 2) := by decide +kernel
theorem dX5_value_50 : decode cX5_value 50 = .ok (.if_icmp .lt 30, 3) := by decide +kernel
theorem dX5_value_53 : decode cX5_value 53 = .ok (.iload 4, 2) := by decide +kernel
theorem dX5_value_55 : decode cX5_value 55 = .ok (.bipush 24, 2) := by decide +kernel
theorem dX5_value_57 : decode cX5_value 57 = .ok (.if_icmp .gt 23, 3) := by decide +kernel
theorem dX5_value_60 : decode cX5_value 60 = .ok (.aload_n 0, 1) := by decide +kernel
theorem dX5_value_61 : decode cX5_value 61 = .ok (.getfield 15, 3) := by decide +kernel
theorem dX5_value_64 : decode cX5_value 64 = .ok (.iload_n 2, 1) := by decide +kernel
theorem dX5_value_65 : decode cX5_value 65 = .ok (.aload_n 1, 1) := by decide +kernel
theorem dX5_value_66 : decode cX5_value 66 = .ok (.iload 4, 2) := by decide +kernel
theorem dX5_value_68 : decode cX5_value 68 = .ok (.bipush 19, 2) := by decide +kernel
theorem dX5_value_70 : decode cX5_value 70 = .ok (.isub, 1) := by decide +kernel
theorem dX5_value_71 : decode cX5_value 71 = .ok (.iaload, 1) := by decide +kernel
theorem dX5_value_72 : decode cX5_value 72 = .ok (.i2l, 1) := by decide +kernel
theorem dX5_value_73 : decode cX5_value 73 = .ok (.lastore, 1) := by decide +kernel
theorem dX5_value_74 : decode cX5_value 74 = .ok (.iinc 2 1, 3) := by decide +kernel
theorem dX5_value_77 : decode cX5_value 77 = .ok (.goto 111, 3) := by decide +kernel
theorem dX5_value_80 : decode cX5_value 80 = .ok (.iload 4, 2) := by decide +kernel
theorem dX5_value_82 : decode cX5_value 82 = .ok (.bipush 18, 2) := by decide +kernel
theorem dX5_value_84 : decode cX5_value 84 = .ok (.if_icmp .ne 36, 3) := by decide +kernel
theorem dX5_value_87 : decode cX5_value 87 = .ok (.iload_n 2, 1) := by decide +kernel
theorem dX5_value_88 : decode cX5_value 88 = .ok (.ifCond .le 32, 3) := by decide +kernel
theorem dX5_value_91 : decode cX5_value 91 = .ok (.aload_n 0, 1) := by decide +kernel
theorem dX5_value_92 : decode cX5_value 92 = .ok (.getfield 15, 3) := by decide +kernel
theorem dX5_value_95 : decode cX5_value 95 = .ok (.iload_n 2, 1) := by decide +kernel
theorem dX5_value_96 : decode cX5_value 96 = .ok (.iconst 1, 1) := by decide +kernel
theorem dX5_value_97 : decode cX5_value 97 = .ok (.isub, 1) := by decide +kernel
theorem dX5_value_98 : decode cX5_value 98 = .ok (.aload_n 0, 1) := by decide +kernel
theorem dX5_value_99 : decode cX5_value 99 = .ok (.getfield 15, 3) := by decide +kernel
theorem dX5_value_102 : decode cX5_value 102 = .ok (.iload_n 2, 1) := by decide +kernel
theorem dX5_value_103 : decode cX5_value 103 = .ok (.iconst 1, 1) := by decide +kernel
theorem dX5_value_104 : decode cX5_value 104 = .ok (.isub, 1) := by decide +kernel
theorem dX5_value_105 : decode cX5_value 105 = .ok (.laload, 1) := by decide +kernel
theorem dX5_value_106 : decode cX5_value 106 = .ok (.lconst 0, 1) := by decide +kernel
theorem dX5_value_107 : decode cX5_value 107 = .ok (.lcmp, 1) := by decide +kernel
theorem dX5_value_108 : decode cX5_value 108 = .ok (.ifCond .ne 7, 3) := by decide +kernel
theorem dX5_value_111 : decode cX5_value 111 = .ok (.lconst 1, 1) := by decide +kernel
theorem dX5_value_112 : decode cX5_value 112 = .ok (.goto 4, 3) := by decide +kernel
theorem dX5_value_115 : decode cX5_value 115 = .ok (.lconst 0, 1) := by decide +kernel
theorem dX5_value_116 : decode cX5_value 116 = .ok (.lastore, 1) := by decide +kernel
theorem dX5_value_117 : decode cX5_value 117 = .ok (.goto 71, 3) := by decide +kernel
theorem dX5_value_120 : decode cX5_value 120 = .ok (.iload_n 2, 1) := by decide +kernel
theorem dX5_value_121 : decode cX5_value 121 = .ok (.iconst 1, 1) := by decide +kernel
theorem dX5_value_122 : decode cX5_value 122 = .ok (.if_icmp .le 62, 3) := by decide +kernel
theorem dX5_value_125 : decode cX5_value 125 = .ok (.iinc 2 (-1), 3) := by decide +kernel
theorem dX5_value_128 : decode cX5_value 128 = .ok (.iload 4, 2) := by decide +kernel
theorem dX5_value_130 : decode cX5_value 130 = .ok (.aload_n 0, 1) := by decide +kernel
theorem dX5_value_131 : decode cX5_value 131 = .ok (.getfield 15, 3) := by decide +kernel
theorem dX5_value_134 : decode cX5_value 134 = .ok (.iload_n 2, 1) := by decide +kernel
theorem dX5_value_135 : decode cX5_value 135 = .ok (.iconst 1, 1) := by decide +kernel
theorem dX5_value_136 : decode cX5_value 136 = .ok (.isub, 1) := by decide +kernel
theorem dX5_value_137 : decode cX5_value 137 = .ok (.laload, 1) := by decide +kernel
theorem dX5_value_138 : decode cX5_value 138 = .ok (.aload_n 0, 1) := by decide +kernel
theorem dX5_value_139 : decode cX5_value 139 = .ok (.getfield 15, 3) := by decide +kernel
theorem dX5_value_142 : decode cX5_value 142 = .ok (.iload_n 2, 1) := by decide +kernel
theorem dX5_value_143 : decode cX5_value 143 = .ok (.laload, 1) := by decide +kernel
theorem dX5_value_144 : decode cX5_value 144 = .ok (.invokestatic 23, 3) := by decide +kernel
theorem dX5_value_147 : decode cX5_value 147 = .ok (.lstore 5, 2) := by decide +kernel
theorem dX5_value_149 : decode cX5_value 149 = .ok (.lload 5, 2) := by decide +kernel
theorem dX5_value_151 : decode cX5_value 151 = .ok (.ldc2_w 27, 3) := by decide +kernel
theorem dX5_value_154 : decode cX5_value 154 = .ok (.lcmp, 1) := by decide +kernel
theorem dX5_value_155 : decode cX5_value 155 = .ok (.ifCond .gt 12, 3) := by decide +kernel
theorem dX5_value_158 : decode cX5_value 158 = .ok (.lload 5, 2) := by decide +kernel
theorem dX5_value_160 : decode cX5_value 160 = .ok (.ldc2_w 29, 3) := by decide +kernel
theorem dX5_value_163 : decode cX5_value 163 = .ok (.lcmp, 1) := by decide +kernel
theorem dX5_value_164 : decode cX5_value 164 = .ok (.ifCond .ge 7, 3) := by decide +kernel
theorem dX5_value_167 : decode cX5_value 167 = .ok (.ldc2_w 31, 3) := by decide +kernel
theorem dX5_value_170 : decode cX5_value 170 = .ok (.lreturn, 1) := by decide +kernel
theorem dX5_value_171 : decode cX5_value 171 = .ok (.aload_n 0, 1) := by decide +kernel
theorem dX5_value_172 : decode cX5_value 172 = .ok (.getfield 15, 3) := by decide +kernel
theorem dX5_value_175 : decode cX5_value 175 = .ok (.iload_n 2, 1) := by decide +kernel
theorem dX5_value_176 : decode cX5_value 176 = .ok (.iconst 1, 1) := by decide +kernel
theorem dX5_value_177 : decode cX5_value 177 = .ok (.isub, 1) := by decide +kernel
theorem dX5_value_178 : decode cX5_value 178 = .ok (.lload 5, 2) := by decide +kernel
theorem dX5_value_180 : decode cX5_value 180 = .ok (.lastore, 1) := by decide +kernel
theorem dX5_value_181 : decode cX5_value 181 = .ok (.goto 7, 3) := by decide +kernel
theorem dX5_value_184 : decode cX5_value 184 = .ok (.ldc2_w 31, 3) := by decide +kernel
theorem dX5_value_187 : decode cX5_value 187 = .ok (.lreturn, 1) := by decide +kernel
theorem dX5_value_188 : decode cX5_value 188 = .ok (.iinc 3 1, 3) := by decide +kernel
theorem dX5_value_191 : decode cX5_value 191 = .ok (.goto (-187), 3) := by decide +kernel
theorem dX5_value_194 : decode cX5_value 194 = .ok (.iload_n 2, 1) := by decide +kernel
theorem dX5_value_195 : decode cX5_value 195 = .ok (.iconst 1, 1) := by decide +kernel
theorem dX5_value_196 : decode cX5_value 196 = .ok (.if_icmp .ne 12, 3) := by decide +kernel
theorem dX5_value_199 : decode cX5_value 199 = .ok (.aload_n 0, 1) := by decide +kernel
theorem dX5_value_200 : decode cX5_value 200 = .ok (.getfield 15, 3) := by decide +kernel
theorem dX5_value_203 : decode cX5_value 203 = .ok (.iconst 0, 1) := by decide +kernel
theorem dX5_value_204 : decode cX5_value 204 = .ok (.laload, 1) := by decide +kernel
theorem dX5_value_205 : decode cX5_value 205 = .ok (.goto 6, 3) := by decide +kernel
theorem dX5_value_208 : decode cX5_value 208 = .ok (.ldc2_w 31, 3) := by decide +kernel
theorem dX5_value_211 : decode cX5_value 211 = .ok (.lreturn, 1) := by decide +kernel
theorem dX5_join_0 : decode cX5_join 0 = .ok (.iload_n 0, 1) := by decide +kernel
theorem dX5_join_1 : decode cX5_join 1 = .ok (.tableswitch 87 31 34 #[31, 35, 39, 71], 31) := by decide +kernel
theorem dX5_join_32 : decode cX5_join 32 = .ok (.lload_n 1, 1) := by decide +kernel
theorem dX5_join_33 : decode cX5_join 33 = .ok (.lload_n 3, 1) := by decide +kernel
theorem dX5_join_34 : decode cX5_join 34 = .ok (.ladd, 1) := by decide +kernel
theorem dX5_join_35 : decode cX5_join 35 = .ok (.lreturn, 1) := by decide +kernel
theorem dX5_join_36 : decode cX5_join 36 = .ok (.lload_n 1, 1) := by decide +kernel
theorem dX5_join_37 : decode cX5_join 37 = .ok (.lload_n 3, 1) := by decide +kernel
theorem dX5_join_38 : decode cX5_join 38 = .ok (.lsub, 1) := by decide +kernel
theorem dX5_join_39 : decode cX5_join 39 = .ok (.lreturn, 1) := by decide +kernel
theorem dX5_join_40 : decode cX5_join 40 = .ok (.lload_n 1, 1) := by decide +kernel
theorem dX5_join_41 : decode cX5_join 41 = .ok (.lconst 0, 1) := by decide +kernel
theorem dX5_join_42 : decode cX5_join 42 = .ok (.lcmp, 1) := by decide +kernel
theorem dX5_join_43 : decode cX5_join 43 = .ok (.ifCond .eq 25, 3) := by decide +kernel
theorem dX5_join_46 : decode cX5_join 46 = .ok (.lload_n 3, 1) := by decide +kernel
theorem dX5_join_47 : decode cX5_join 47 = .ok (.invokestatic 33, 3) := by decide +kernel
theorem dX5_join_50 : decode cX5_join 50 = .ok (.ldc2_w 27, 3) := by decide +kernel
theorem dX5_join_53 : decode cX5_join 53 = .ok (.lload_n 1, 1) := by decide +kernel
theorem dX5_join_54 : decode cX5_join 54 = .ok (.invokestatic 33, 3) := by decide +kernel
theorem dX5_join_57 : decode cX5_join 57 = .ok (.ldiv, 1) := by decide +kernel
theorem dX5_join_58 : decode cX5_join 58 = .ok (.lcmp, 1) := by decide +kernel
theorem dX5_join_59 : decode cX5_join 59 = .ok (.ifCond .le 9, 3) := by decide +kernel
theorem dX5_join_62 : decode cX5_join 62 = .ok (.ldc2_w 31, 3) := by decide +kernel
theorem dX5_join_65 : decode cX5_join 65 = .ok (.goto 6, 3) := by decide +kernel
theorem dX5_join_68 : decode cX5_join 68 = .ok (.lload_n 1, 1) := by decide +kernel
theorem dX5_join_69 : decode cX5_join 69 = .ok (.lload_n 3, 1) := by decide +kernel
theorem dX5_join_70 : decode cX5_join 70 = .ok (.lmul, 1) := by decide +kernel
theorem dX5_join_71 : decode cX5_join 71 = .ok (.lreturn, 1) := by decide +kernel
theorem dX5_join_72 : decode cX5_join 72 = .ok (.lload_n 3, 1) := by decide +kernel
theorem dX5_join_73 : decode cX5_join 73 = .ok (.lconst 0, 1) := by decide +kernel
theorem dX5_join_74 : decode cX5_join 74 = .ok (.lcmp, 1) := by decide +kernel
theorem dX5_join_75 : decode cX5_join 75 = .ok (.ifCond .ne 9, 3) := by decide +kernel
theorem dX5_join_78 : decode cX5_join 78 = .ok (.ldc2_w 31, 3) := by decide +kernel
theorem dX5_join_81 : decode cX5_join 81 = .ok (.goto 6, 3) := by decide +kernel
theorem dX5_join_84 : decode cX5_join 84 = .ok (.lload_n 1, 1) := by decide +kernel
theorem dX5_join_85 : decode cX5_join 85 = .ok (.lload_n 3, 1) := by decide +kernel
theorem dX5_join_86 : decode cX5_join 86 = .ok (.ldiv, 1) := by decide +kernel
theorem dX5_join_87 : decode cX5_join 87 = .ok (.lreturn, 1) := by decide +kernel
theorem dX5_join_88 : decode cX5_join 88 = .ok (.iload_n 0, 1) := by decide +kernel
theorem dX5_join_89 : decode cX5_join 89 = .ok (.lload_n 1, 1) := by decide +kernel
theorem dX5_join_90 : decode cX5_join 90 = .ok (.lload_n 3, 1) := by decide +kernel
theorem dX5_join_91 : decode cX5_join 91 = .ok (.invokestatic 39, 3) := by decide +kernel
theorem dX5_join_94 : decode cX5_join 94 = .ok (.ifCond .eq 7, 3) := by decide +kernel
theorem dX5_join_97 : decode cX5_join 97 = .ok (.lconst 1, 1) := by decide +kernel
theorem dX5_join_98 : decode cX5_join 98 = .ok (.goto 4, 3) := by decide +kernel
theorem dX5_join_101 : decode cX5_join 101 = .ok (.lconst 0, 1) := by decide +kernel
theorem dX5_join_102 : decode cX5_join 102 = .ok (.lreturn, 1) := by decide +kernel
theorem dX5_holds_0 : decode cX5_holds 0 = .ok (.iload_n 0, 1) := by decide +kernel
theorem dX5_holds_1 : decode cX5_holds 1 = .ok (.tableswitch 167 16 29 #[71, 89, 167, 167, 167, 167, 167, 167, 167, 107, 119, 131, 143, 155], 71) := by decide +kernel
theorem dX5_holds_72 : decode cX5_holds 72 = .ok (.lload_n 1, 1) := by decide +kernel
theorem dX5_holds_73 : decode cX5_holds 73 = .ok (.lconst 0, 1) := by decide +kernel
theorem dX5_holds_74 : decode cX5_holds 74 = .ok (.lcmp, 1) := by decide +kernel
theorem dX5_holds_75 : decode cX5_holds 75 = .ok (.ifCond .ne 9, 3) := by decide +kernel
theorem dX5_holds_78 : decode cX5_holds 78 = .ok (.lload_n 3, 1) := by decide +kernel
theorem dX5_holds_79 : decode cX5_holds 79 = .ok (.lconst 0, 1) := by decide +kernel
theorem dX5_holds_80 : decode cX5_holds 80 = .ok (.lcmp, 1) := by decide +kernel
theorem dX5_holds_81 : decode cX5_holds 81 = .ok (.ifCond .eq 7, 3) := by decide +kernel
theorem dX5_holds_84 : decode cX5_holds 84 = .ok (.iconst 1, 1) := by decide +kernel
theorem dX5_holds_85 : decode cX5_holds 85 = .ok (.goto 4, 3) := by decide +kernel
theorem dX5_holds_88 : decode cX5_holds 88 = .ok (.iconst 0, 1) := by decide +kernel
theorem dX5_holds_89 : decode cX5_holds 89 = .ok (.ireturn, 1) := by decide +kernel
theorem dX5_holds_90 : decode cX5_holds 90 = .ok (.lload_n 1, 1) := by decide +kernel
theorem dX5_holds_91 : decode cX5_holds 91 = .ok (.lconst 0, 1) := by decide +kernel
theorem dX5_holds_92 : decode cX5_holds 92 = .ok (.lcmp, 1) := by decide +kernel
theorem dX5_holds_93 : decode cX5_holds 93 = .ok (.ifCond .eq 13, 3) := by decide +kernel
theorem dX5_holds_96 : decode cX5_holds 96 = .ok (.lload_n 3, 1) := by decide +kernel
theorem dX5_holds_97 : decode cX5_holds 97 = .ok (.lconst 0, 1) := by decide +kernel
theorem dX5_holds_98 : decode cX5_holds 98 = .ok (.lcmp, 1) := by decide +kernel
theorem dX5_holds_99 : decode cX5_holds 99 = .ok (.ifCond .eq 7, 3) := by decide +kernel
theorem dX5_holds_102 : decode cX5_holds 102 = .ok (.iconst 1, 1) := by decide +kernel
theorem dX5_holds_103 : decode cX5_holds 103 = .ok (.goto 4, 3) := by decide +kernel
theorem dX5_holds_106 : decode cX5_holds 106 = .ok (.iconst 0, 1) := by decide +kernel
theorem dX5_holds_107 : decode cX5_holds 107 = .ok (.ireturn, 1) := by decide +kernel
theorem dX5_holds_108 : decode cX5_holds 108 = .ok (.lload_n 1, 1) := by decide +kernel
theorem dX5_holds_109 : decode cX5_holds 109 = .ok (.lload_n 3, 1) := by decide +kernel
theorem dX5_holds_110 : decode cX5_holds 110 = .ok (.lcmp, 1) := by decide +kernel
theorem dX5_holds_111 : decode cX5_holds 111 = .ok (.ifCond .ge 7, 3) := by decide +kernel
theorem dX5_holds_114 : decode cX5_holds 114 = .ok (.iconst 1, 1) := by decide +kernel
theorem dX5_holds_115 : decode cX5_holds 115 = .ok (.goto 4, 3) := by decide +kernel
theorem dX5_holds_118 : decode cX5_holds 118 = .ok (.iconst 0, 1) := by decide +kernel
theorem dX5_holds_119 : decode cX5_holds 119 = .ok (.ireturn, 1) := by decide +kernel
theorem dX5_holds_120 : decode cX5_holds 120 = .ok (.lload_n 1, 1) := by decide +kernel
theorem dX5_holds_121 : decode cX5_holds 121 = .ok (.lload_n 3, 1) := by decide +kernel
theorem dX5_holds_122 : decode cX5_holds 122 = .ok (.lcmp, 1) := by decide +kernel
theorem dX5_holds_123 : decode cX5_holds 123 = .ok (.ifCond .gt 7, 3) := by decide +kernel
theorem dX5_holds_126 : decode cX5_holds 126 = .ok (.iconst 1, 1) := by decide +kernel
theorem dX5_holds_127 : decode cX5_holds 127 = .ok (.goto 4, 3) := by decide +kernel
theorem dX5_holds_130 : decode cX5_holds 130 = .ok (.iconst 0, 1) := by decide +kernel
theorem dX5_holds_131 : decode cX5_holds 131 = .ok (.ireturn, 1) := by decide +kernel
theorem dX5_holds_132 : decode cX5_holds 132 = .ok (.lload_n 1, 1) := by decide +kernel
theorem dX5_holds_133 : decode cX5_holds 133 = .ok (.lload_n 3, 1) := by decide +kernel
theorem dX5_holds_134 : decode cX5_holds 134 = .ok (.lcmp, 1) := by decide +kernel
theorem dX5_holds_135 : decode cX5_holds 135 = .ok (.ifCond .ne 7, 3) := by decide +kernel
theorem dX5_holds_138 : decode cX5_holds 138 = .ok (.iconst 1, 1) := by decide +kernel
theorem dX5_holds_139 : decode cX5_holds 139 = .ok (.goto 4, 3) := by decide +kernel
theorem dX5_holds_142 : decode cX5_holds 142 = .ok (.iconst 0, 1) := by decide +kernel
theorem dX5_holds_143 : decode cX5_holds 143 = .ok (.ireturn, 1) := by decide +kernel
theorem dX5_holds_144 : decode cX5_holds 144 = .ok (.lload_n 1, 1) := by decide +kernel
theorem dX5_holds_145 : decode cX5_holds 145 = .ok (.lload_n 3, 1) := by decide +kernel
theorem dX5_holds_146 : decode cX5_holds 146 = .ok (.lcmp, 1) := by decide +kernel
theorem dX5_holds_147 : decode cX5_holds 147 = .ok (.ifCond .eq 7, 3) := by decide +kernel
theorem dX5_holds_150 : decode cX5_holds 150 = .ok (.iconst 1, 1) := by decide +kernel
theorem dX5_holds_151 : decode cX5_holds 151 = .ok (.goto 4, 3) := by decide +kernel
theorem dX5_holds_154 : decode cX5_holds 154 = .ok (.iconst 0, 1) := by decide +kernel
theorem dX5_holds_155 : decode cX5_holds 155 = .ok (.ireturn, 1) := by decide +kernel
theorem dX5_holds_156 : decode cX5_holds 156 = .ok (.lload_n 1, 1) := by decide +kernel
theorem dX5_holds_157 : decode cX5_holds 157 = .ok (.lload_n 3, 1) := by decide +kernel
theorem dX5_holds_158 : decode cX5_holds 158 = .ok (.lcmp, 1) := by decide +kernel
theorem dX5_holds_159 : decode cX5_holds 159 = .ok (.ifCond .lt 7, 3) := by decide +kernel
theorem dX5_holds_162 : decode cX5_holds 162 = .ok (.iconst 1, 1) := by decide +kernel
theorem dX5_holds_163 : decode cX5_holds 163 = .ok (.goto 4, 3) := by decide +kernel
theorem dX5_holds_166 : decode cX5_holds 166 = .ok (.iconst 0, 1) := by decide +kernel
theorem dX5_holds_167 : decode cX5_holds 167 = .ok (.ireturn, 1) := by decide +kernel
theorem dX5_holds_168 : decode cX5_holds 168 = .ok (.lload_n 1, 1) := by decide +kernel
theorem dX5_holds_169 : decode cX5_holds 169 = .ok (.lload_n 3, 1) := by decide +kernel
theorem dX5_holds_170 : decode cX5_holds 170 = .ok (.lcmp, 1) := by decide +kernel
theorem dX5_holds_171 : decode cX5_holds 171 = .ok (.ifCond .le 7, 3) := by decide +kernel
theorem dX5_holds_174 : decode cX5_holds 174 = .ok (.iconst 1, 1) := by decide +kernel
theorem dX5_holds_175 : decode cX5_holds 175 = .ok (.goto 4, 3) := by decide +kernel
theorem dX5_holds_178 : decode cX5_holds 178 = .ok (.iconst 0, 1) := by decide +kernel
theorem dX5_holds_179 : decode cX5_holds 179 = .ok (.ireturn, 1) := by decide +kernel
theorem dX6_init_0 : decode cX6_init 0 = .ok (.aload_n 0, 1) := by decide +kernel
theorem dX6_init_1 : decode cX6_init 1 = .ok (.invokespecial 3, 3) := by decide +kernel
theorem dX6_init_4 : decode cX6_init 4 = .ok (.aload_n 0, 1) := by decide +kernel
theorem dX6_init_5 : decode cX6_init 5 = .ok (.iconst (-1), 1) := by decide +kernel
theorem dX6_init_6 : decode cX6_init 6 = .ok (.putfield 9, 3) := by decide +kernel
theorem dX6_init_9 : decode cX6_init 9 = .ok (.aload_n 0, 1) := by decide +kernel
theorem dX6_init_10 : decode cX6_init 10 = .ok (.new 15, 3) := by decide +kernel
theorem dX6_init_13 : decode cX6_init 13 = .ok (.dup, 1) := by decide +kernel
theorem dX6_init_14 : decode cX6_init 14 = .ok (.aload_n 1, 1) := by decide +kernel
theorem dX6_init_15 : decode cX6_init 15 = .ok (.invokespecial 17, 3) := by decide +kernel
theorem dX6_init_18 : decode cX6_init 18 = .ok (.putfield 20, 3) := by decide +kernel
theorem dX6_init_21 : decode cX6_init 21 = .ok (.aload_n 0, 1) := by decide +kernel
theorem dX6_init_22 : decode cX6_init 22 = .ok (.new 24, 3) := by decide +kernel
theorem dX6_init_25 : decode cX6_init 25 = .ok (.dup, 1) := by decide +kernel
theorem dX6_init_26 : decode cX6_init 26 = .ok (.aload_n 0, 1) := by decide +kernel
theorem dX6_init_27 : decode cX6_init 27 = .ok (.getfield 20, 3) := by decide +kernel
theorem dX6_init_30 : decode cX6_init 30 = .ok (.invokespecial 26, 3) := by decide +kernel
theorem dX6_init_33 : decode cX6_init 33 = .ok (.putfield 29, 3) := by decide +kernel
theorem dX6_init_36 : decode cX6_init 36 = .ok (.return_, 1) := by decide +kernel
theorem dX6_read_0 : decode cX6_read 0 = .ok (.aload_n 0, 1) := by decide +kernel
theorem dX6_read_1 : decode cX6_read 1 = .ok (.aload_n 1, 1) := by decide +kernel
theorem dX6_read_2 : decode cX6_read 2 = .ok (.putfield 33, 3) := by decide +kernel
theorem dX6_read_5 : decode cX6_read 5 = .ok (.aload_n 0, 1) := by decide +kernel
theorem dX6_read_6 : decode cX6_read 6 = .ok (.getfield 33, 3) := by decide +kernel
theorem dX6_read_9 : decode cX6_read 9 = .ok (.invokevirtual 37, 3) := by decide +kernel
theorem dX6_read_12 : decode cX6_read 12 = .ok (.aload_n 0, 1) := by decide +kernel
theorem dX6_read_13 : decode cX6_read 13 = .ok (.iconst 0, 1) := by decide +kernel
theorem dX6_read_14 : decode cX6_read 14 = .ok (.putfield 42, 3) := by decide +kernel
theorem dX6_read_17 : decode cX6_read 17 = .ok (.aload_n 0, 1) := by decide +kernel
theorem dX6_read_18 : decode cX6_read 18 = .ok (.iconst (-1), 1) := by decide +kernel
theorem dX6_read_19 : decode cX6_read 19 = .ok (.putfield 9, 3) := by decide +kernel
theorem dX6_read_22 : decode cX6_read 22 = .ok (.aload_n 0, 1) := by decide +kernel
theorem dX6_read_23 : decode cX6_read 23 = .ok (.iconst 0, 1) := by decide +kernel
theorem dX6_read_24 : decode cX6_read 24 = .ok (.putfield 45, 3) := by decide +kernel
theorem dX6_read_27 : decode cX6_read 27 = .ok (.aload_n 0, 1) := by decide +kernel
theorem dX6_read_28 : decode cX6_read 28 = .ok (.iconst 0, 1) := by decide +kernel
theorem dX6_read_29 : decode cX6_read 29 = .ok (.putfield 48, 3) := by decide +kernel
theorem dX6_read_32 : decode cX6_read 32 = .ok (.aload_n 0, 1) := by decide +kernel
theorem dX6_read_33 : decode cX6_read 33 = .ok (.getfield 20, 3) := by decide +kernel
theorem dX6_read_36 : decode cX6_read 36 = .ok (.iload_n 2, 1) := by decide +kernel
theorem dX6_read_37 : decode cX6_read 37 = .ok (.invokevirtual 52, 3) := by decide +kernel
theorem dX6_read_40 : decode cX6_read 40 = .ok (.iconst 0, 1) := by decide +kernel
theorem dX6_read_41 : decode cX6_read 41 = .ok (.istore_n 3, 1) := by decide +kernel
theorem dX6_read_42 : decode cX6_read 42 = .ok (.iload_n 3, 1) := by decide +kernel
theorem dX6_read_43 : decode cX6_read 43 = .ok (.sipush 700, 3) := by decide +kernel
theorem dX6_read_46 : decode cX6_read 46 = .ok (.if_icmp .gt 41, 3) := by decide +kernel
theorem dX6_read_49 : decode cX6_read 49 = .ok (.aload_n 0, 1) := by decide +kernel
theorem dX6_read_50 : decode cX6_read 50 = .ok (.getfield 20, 3) := by decide +kernel
theorem dX6_read_53 : decode cX6_read 53 = .ok (.getfield 56, 3) := by decide +kernel
theorem dX6_read_56 : decode cX6_read 56 = .ok (.bipush 40, 2) := by decide +kernel
theorem dX6_read_58 : decode cX6_read 58 = .ok (.if_icmp .ne 5, 3) := by decide +kernel
theorem dX6_read_61 : decode cX6_read 61 = .ok (.iload_n 3, 1) := by decide +kernel
theorem dX6_read_62 : decode cX6_read 62 = .ok (.ireturn, 1) := by decide +kernel
theorem dX6_read_63 : decode cX6_read 63 = .ok (.aload_n 0, 1) := by decide +kernel
theorem dX6_read_64 : decode cX6_read 64 = .ok (.invokevirtual 59, 3) := by decide +kernel
theorem dX6_read_67 : decode cX6_read 67 = .ok (.ifCond .eq 12, 3) := by decide +kernel
theorem dX6_read_70 : decode cX6_read 70 = .ok (.aload_n 0, 1) := by decide +kernel
theorem dX6_read_71 : decode cX6_read 71 = .ok (.bipush 37, 2) := by decide +kernel
theorem dX6_read_73 : decode cX6_read 73 = .ok (.invokevirtual 63, 3) := by decide +kernel
theorem dX6_read_76 : decode cX6_read 76 = .ok (.ifCond .ne 5, 3) := by decide +kernel
theorem dX6_read_79 : decode cX6_read 79 = .ok (.iconst (-1), 1) := by decide +kernel
theorem dX6_read_80 : decode cX6_read 80 = .ok (.ireturn, 1) := by decide +kernel
theorem dX6_read_81 : decode cX6_read 81 = .ok (.iinc 3 1, 3) := by decide +kernel
theorem dX6_read_84 : decode cX6_read 84 = .ok (.goto (-42), 3) := by decide +kernel
theorem dX6_read_87 : decode cX6_read 87 = .ok (.iconst (-1), 1) := by decide +kernel
theorem dX6_read_88 : decode cX6_read 88 = .ok (.ireturn, 1) := by decide +kernel
theorem dX6_readLine_0 : decode cX6_readLine 0 = .ok (.aload_n 0, 1) := by decide +kernel
theorem dX6_readLine_1 : decode cX6_readLine 1 = .ok (.getfield 20, 3) := by decide +kernel
theorem dX6_readLine_4 : decode cX6_readLine 4 = .ok (.getfield 56, 3) := by decide +kernel
theorem dX6_readLine_7 : decode cX6_readLine 7 = .ok (.tableswitch 116 0 10 #[57, 62, 69, 76, 91, 96, 101, 62, 84, 106, 111], 57) := by decide +kernel
theorem dX6_readLine_64 : decode cX6_readLine 64 = .ok (.aload_n 0, 1) := by decide +kernel
theorem dX6_readLine_65 : decode cX6_readLine 65 = .ok (.invokevirtual 67, 3) := by decide +kernel
theorem dX6_readLine_68 : decode cX6_readLine 68 = .ok (.ireturn, 1) := by decide +kernel
theorem dX6_readLine_69 : decode cX6_readLine 69 = .ok (.aload_n 0, 1) := by decide +kernel
theorem dX6_readLine_70 : decode cX6_readLine 70 = .ok (.bipush 99, 2) := by decide +kernel
theorem dX6_readLine_72 : decode cX6_readLine 72 = .ok (.invokevirtual 70, 3) := by decide +kernel
theorem dX6_readLine_75 : decode cX6_readLine 75 = .ok (.ireturn, 1) := by decide +kernel
theorem dX6_readLine_76 : decode cX6_readLine 76 = .ok (.aload_n 0, 1) := by decide +kernel
theorem dX6_readLine_77 : decode cX6_readLine 77 = .ok (.bipush 9, 2) := by decide +kernel
theorem dX6_readLine_79 : decode cX6_readLine 79 = .ok (.invokevirtual 70, 3) := by decide +kernel
theorem dX6_readLine_82 : decode cX6_readLine 82 = .ok (.ireturn, 1) := by decide +kernel
theorem dX6_readLine_83 : decode cX6_readLine 83 = .ok (.aload_n 0, 1) := by decide +kernel
theorem dX6_readLine_84 : decode cX6_readLine 84 = .ok (.sipush 9999, 3) := by decide +kernel
theorem dX6_readLine_87 : decode cX6_readLine 87 = .ok (.invokevirtual 70, 3) := by decide +kernel
theorem dX6_readLine_90 : decode cX6_readLine 90 = .ok (.ireturn, 1) := by decide +kernel
theorem dX6_readLine_91 : decode cX6_readLine 91 = .ok (.aload_n 0, 1) := by decide +kernel
theorem dX6_readLine_92 : decode cX6_readLine 92 = .ok (.ldc 73, 2) := by decide +kernel
theorem dX6_readLine_94 : decode cX6_readLine 94 = .ok (.invokevirtual 70, 3) := by decide +kernel
theorem dX6_readLine_97 : decode cX6_readLine 97 = .ok (.ireturn, 1) := by decide +kernel
theorem dX6_readLine_98 : decode cX6_readLine 98 = .ok (.aload_n 0, 1) := by decide +kernel
theorem dX6_readLine_99 : decode cX6_readLine 99 = .ok (.invokevirtual 74, 3) := by decide +kernel
theorem dX6_readLine_102 : decode cX6_readLine 102 = .ok (.ireturn, 1) := by decide +kernel
theorem dX6_readLine_103 : decode cX6_readLine 103 = .ok (.aload_n 0, 1) := by decide +kernel
theorem dX6_readLine_104 : decode cX6_readLine 104 = .ok (.invokevirtual 77, 3) := by decide +kernel
theorem dX6_readLine_107 : decode cX6_readLine 107 = .ok (.ireturn, 1) := by decide +kernel
theorem dX6_readLine_108 : decode cX6_readLine 108 = .ok (.aload_n 0, 1) := by decide +kernel
theorem dX6_readLine_109 : decode cX6_readLine 109 = .ok (.invokevirtual 80, 3) := by decide +kernel
theorem dX6_readLine_112 : decode cX6_readLine 112 = .ok (.ireturn, 1) := by decide +kernel
theorem dX6_readLine_113 : decode cX6_readLine 113 = .ok (.aload_n 0, 1) := by decide +kernel
theorem dX6_readLine_114 : decode cX6_readLine 114 = .ok (.invokevirtual 83, 3) := by decide +kernel
theorem dX6_readLine_117 : decode cX6_readLine 117 = .ok (.ireturn, 1) := by decide +kernel
theorem dX6_readLine_118 : decode cX6_readLine 118 = .ok (.aload_n 0, 1) := by decide +kernel
theorem dX6_readLine_119 : decode cX6_readLine 119 = .ok (.invokevirtual 86, 3) := by decide +kernel
theorem dX6_readLine_122 : decode cX6_readLine 122 = .ok (.ireturn, 1) := by decide +kernel
theorem dX6_readLine_123 : decode cX6_readLine 123 = .ok (.aload_n 0, 1) := by decide +kernel
theorem dX6_readLine_124 : decode cX6_readLine 124 = .ok (.iconst 1, 1) := by decide +kernel
theorem dX6_readLine_125 : decode cX6_readLine 125 = .ok (.invokevirtual 89, 3) := by decide +kernel
theorem dX6_readLine_128 : decode cX6_readLine 128 = .ok (.ireturn, 1) := by decide +kernel
theorem dX6_readBridge_0 : decode cX6_readBridge 0 = .ok (.aload_n 0, 1) := by decide +kernel
theorem dX6_readBridge_1 : decode cX6_readBridge 1 = .ok (.invokevirtual 92, 3) := by decide +kernel
theorem dX6_readBridge_4 : decode cX6_readBridge 4 = .ok (.ifCond .ne 5, 3) := by decide +kernel
theorem dX6_readBridge_7 : decode cX6_readBridge 7 = .ok (.iconst 0, 1) := by decide +kernel
theorem dX6_readBridge_8 : decode cX6_readBridge 8 = .ok (.ireturn, 1) := by decide +kernel
theorem dX6_readBridge_9 : decode cX6_readBridge 9 = .ok (.aload_n 0, 1) := by decide +kernel
theorem dX6_readBridge_10 : decode cX6_readBridge 10 = .ok (.iconst 2, 1) := by decide +kernel
theorem dX6_readBridge_11 : decode cX6_readBridge 11 = .ok (.bipush 12, 2) := by decide +kernel
theorem dX6_readBridge_13 : decode cX6_readBridge 13 = .ok (.invokevirtual 95, 3) := by decide +kernel
theorem dX6_readBridge_16 : decode cX6_readBridge 16 = .ok (.istore_n 1, 1) := by decide +kernel
theorem dX6_readBridge_17 : decode cX6_readBridge 17 = .ok (.iload_n 1, 1) := by decide +kernel
theorem dX6_readBridge_18 : decode cX6_readBridge 18 = .ok (.iconst (-1), 1) := by decide +kernel
theorem dX6_readBridge_19 : decode cX6_readBridge 19 = .ok (.if_icmp .ne 7, 3) := by decide +kernel
theorem dX6_readBridge_22 : decode cX6_readBridge 22 = .ok (.iconst (-1), 1) := by decide +kernel
theorem dX6_readBridge_23 : decode cX6_readBridge 23 = .ok (.goto 10, 3) := by decide +kernel
theorem dX6_readBridge_26 : decode cX6_readBridge 26 = .ok (.aload_n 0, 1) := by decide +kernel
theorem dX6_readBridge_27 : decode cX6_readBridge 27 = .ok (.iconst 0, 1) := by decide +kernel
theorem dX6_readBridge_28 : decode cX6_readBridge 28 = .ok (.bipush 9, 2) := by decide +kernel
theorem dX6_readBridge_30 : decode cX6_readBridge 30 = .ok (.invokevirtual 95, 3) := by decide +kernel
theorem dX6_readBridge_33 : decode cX6_readBridge 33 = .ok (.istore_n 2, 1) := by decide +kernel
theorem dX6_readBridge_34 : decode cX6_readBridge 34 = .ok (.iload_n 2, 1) := by decide +kernel
theorem dX6_readBridge_35 : decode cX6_readBridge 35 = .ok (.iconst (-1), 1) := by decide +kernel
theorem dX6_readBridge_36 : decode cX6_readBridge 36 = .ok (.if_icmp .ne 7, 3) := by decide +kernel
theorem dX6_readBridge_39 : decode cX6_readBridge 39 = .ok (.iconst (-1), 1) := by decide +kernel
theorem dX6_readBridge_40 : decode cX6_readBridge 40 = .ok (.goto 10, 3) := by decide +kernel
theorem dX6_readBridge_43 : decode cX6_readBridge 43 = .ok (.aload_n 0, 1) := by decide +kernel
theorem dX6_readBridge_44 : decode cX6_readBridge 44 = .ok (.iconst 0, 1) := by decide +kernel
theorem dX6_readBridge_45 : decode cX6_readBridge 45 = .ok (.bipush 9, 2) := by decide +kernel
theorem dX6_readBridge_47 : decode cX6_readBridge 47 = .ok (.invokevirtual 95, 3) := by decide +kernel
theorem dX6_readBridge_50 : decode cX6_readBridge 50 = .ok (.istore_n 3, 1) := by decide +kernel
theorem dX6_readBridge_51 : decode cX6_readBridge 51 = .ok (.iload_n 3, 1) := by decide +kernel
theorem dX6_readBridge_52 : decode cX6_readBridge 52 = .ok (.iconst (-1), 1) := by decide +kernel
theorem dX6_readBridge_53 : decode cX6_readBridge 53 = .ok (.if_icmp .ne 5, 3) := by decide +kernel
theorem dX6_readBridge_56 : decode cX6_readBridge 56 = .ok (.iconst 0, 1) := by decide +kernel
theorem dX6_readBridge_57 : decode cX6_readBridge 57 = .ok (.ireturn, 1) := by decide +kernel
theorem dX6_readBridge_58 : decode cX6_readBridge 58 = .ok (.aload_n 0, 1) := by decide +kernel
theorem dX6_readBridge_59 : decode cX6_readBridge 59 = .ok (.getfield 33, 3) := by decide +kernel
theorem dX6_readBridge_62 : decode cX6_readBridge 62 = .ok (.iload_n 1, 1) := by decide +kernel
theorem dX6_readBridge_63 : decode cX6_readBridge 63 = .ok (.putfield 99, 3) := by decide +kernel
theorem dX6_readBridge_66 : decode cX6_readBridge 66 = .ok (.aload_n 0, 1) := by decide +kernel
theorem dX6_readBridge_67 : decode cX6_readBridge 67 = .ok (.getfield 33, 3) := by decide +kernel
theorem dX6_readBridge_70 : decode cX6_readBridge 70 = .ok (.iload_n 2, 1) := by decide +kernel
theorem dX6_readBridge_71 : decode cX6_readBridge 71 = .ok (.putfield 102, 3) := by decide +kernel
theorem dX6_readBridge_74 : decode cX6_readBridge 74 = .ok (.aload_n 0, 1) := by decide +kernel
theorem dX6_readBridge_75 : decode cX6_readBridge 75 = .ok (.getfield 33, 3) := by decide +kernel
theorem dX6_readBridge_78 : decode cX6_readBridge 78 = .ok (.iload_n 3, 1) := by decide +kernel
theorem dX6_readBridge_79 : decode cX6_readBridge 79 = .ok (.putfield 105, 3) := by decide +kernel
theorem dX6_readBridge_82 : decode cX6_readBridge 82 = .ok (.iconst 1, 1) := by decide +kernel
theorem dX6_readBridge_83 : decode cX6_readBridge 83 = .ok (.ireturn, 1) := by decide +kernel
theorem dX6_readSetting_0 : decode cX6_readSetting 0 = .ok (.aload_n 0, 1) := by decide +kernel
theorem dX6_readSetting_1 : decode cX6_readSetting 1 = .ok (.getfield 20, 3) := by decide +kernel
theorem dX6_readSetting_4 : decode cX6_readSetting 4 = .ok (.getfield 56, 3) := by decide +kernel
theorem dX6_readSetting_7 : decode cX6_readSetting 7 = .ok (.istore_n 2, 1) := by decide +kernel
theorem dX6_readSetting_8 : decode cX6_readSetting 8 = .ok (.aload_n 0, 1) := by decide +kernel
theorem dX6_readSetting_9 : decode cX6_readSetting 9 = .ok (.invokevirtual 92, 3) := by decide +kernel
theorem dX6_readSetting_12 : decode cX6_readSetting 12 = .ok (.ifCond .ne 5, 3) := by decide +kernel
theorem dX6_readSetting_15 : decode cX6_readSetting 15 = .ok (.iconst 0, 1) := by decide +kernel
theorem dX6_readSetting_16 : decode cX6_readSetting 16 = .ok (.ireturn, 1) := by decide +kernel
theorem dX6_readSetting_17 : decode cX6_readSetting 17 = .ok (.aload_n 0, 1) := by decide +kernel
theorem dX6_readSetting_18 : decode cX6_readSetting 18 = .ok (.iconst 0, 1) := by decide +kernel
theorem dX6_readSetting_19 : decode cX6_readSetting 19 = .ok (.iload_n 1, 1) := by decide +kernel
theorem dX6_readSetting_20 : decode cX6_readSetting 20 = .ok (.invokevirtual 95, 3) := by decide +kernel
theorem dX6_readSetting_23 : decode cX6_readSetting 23 = .ok (.istore_n 3, 1) := by decide +kernel
theorem dX6_readSetting_24 : decode cX6_readSetting 24 = .ok (.iload_n 3, 1) := by decide +kernel
theorem dX6_readSetting_25 : decode cX6_readSetting 25 = .ok (.iconst (-1), 1) := by decide +kernel
theorem dX6_readSetting_26 : decode cX6_readSetting 26 = .ok (.if_icmp .ne 5, 3) := by decide +kernel
theorem dX6_readSetting_29 : decode cX6_readSetting 29 = .ok (.iconst 0, 1) := by decide +kernel
theorem dX6_readSetting_30 : decode cX6_readSetting 30 = .ok (.ireturn, 1) := by decide +kernel
theorem dX6_readSetting_31 : decode cX6_readSetting 31 = .ok (.aload_n 0, 1) := by decide +kernel
theorem dX6_readSetting_32 : decode cX6_readSetting 32 = .ok (.getfield 33, 3) := by decide +kernel
theorem dX6_readSetting_35 : decode cX6_readSetting 35 = .ok (.iload_n 2, 1) := by decide +kernel
theorem dX6_readSetting_36 : decode cX6_readSetting 36 = .ok (.iload_n 3, 1) := by decide +kernel
theorem dX6_readSetting_37 : decode cX6_readSetting 37 = .ok (.invokevirtual 108, 3) := by decide +kernel
theorem dX6_readSetting_40 : decode cX6_readSetting 40 = .ok (.iconst 1, 1) := by decide +kernel
theorem dX6_readSetting_41 : decode cX6_readSetting 41 = .ok (.ireturn, 1) := by decide +kernel
theorem dX6_readWalker_0 : decode cX6_readWalker 0 = .ok (.aload_n 0, 1) := by decide +kernel
theorem dX6_readWalker_1 : decode cX6_readWalker 1 = .ok (.iconst 0, 1) := by decide +kernel
theorem dX6_readWalker_2 : decode cX6_readWalker 2 = .ok (.invokevirtual 112, 3) := by decide +kernel
theorem dX6_readWalker_5 : decode cX6_readWalker 5 = .ok (.ifCond .ne 5, 3) := by decide +kernel
theorem dX6_readWalker_8 : decode cX6_readWalker 8 = .ok (.iconst 0, 1) := by decide +kernel
theorem dX6_readWalker_9 : decode cX6_readWalker 9 = .ok (.ireturn, 1) := by decide +kernel
theorem dX6_readWalker_10 : decode cX6_readWalker 10 = .ok (.aload_n 0, 1) := by decide +kernel
theorem dX6_readWalker_11 : decode cX6_readWalker 11 = .ok (.iconst 1, 1) := by decide +kernel
theorem dX6_readWalker_12 : decode cX6_readWalker 12 = .ok (.bipush 30, 2) := by decide +kernel
theorem dX6_readWalker_14 : decode cX6_readWalker 14 = .ok (.invokevirtual 95, 3) := by decide +kernel
theorem dX6_readWalker_17 : decode cX6_readWalker 17 = .ok (.istore_n 1, 1) := by decide +kernel
theorem dX6_readWalker_18 : decode cX6_readWalker 18 = .ok (.iload_n 1, 1) := by decide +kernel
theorem dX6_readWalker_19 : decode cX6_readWalker 19 = .ok (.iconst (-1), 1) := by decide +kernel
theorem dX6_readWalker_20 : decode cX6_readWalker 20 = .ok (.if_icmp .ne 7, 3) := by decide +kernel
theorem dX6_readWalker_23 : decode cX6_readWalker 23 = .ok (.iconst (-1), 1) := by decide +kernel
theorem dX6_readWalker_24 : decode cX6_readWalker 24 = .ok (.goto 10, 3) := by decide +kernel
theorem dX6_readWalker_27 : decode cX6_readWalker 27 = .ok (.aload_n 0, 1) := by decide +kernel
theorem dX6_readWalker_28 : decode cX6_readWalker 28 = .ok (.iconst 1, 1) := by decide +kernel
theorem dX6_readWalker_29 : decode cX6_readWalker 29 = .ok (.bipush 9, 2) := by decide +kernel
theorem dX6_readWalker_31 : decode cX6_readWalker 31 = .ok (.invokevirtual 95, 3) := by decide +kernel
theorem dX6_readWalker_34 : decode cX6_readWalker 34 = .ok (.istore_n 2, 1) := by decide +kernel
theorem dX6_readWalker_35 : decode cX6_readWalker 35 = .ok (.iload_n 2, 1) := by decide +kernel
theorem dX6_readWalker_36 : decode cX6_readWalker 36 = .ok (.iconst (-1), 1) := by decide +kernel
theorem dX6_readWalker_37 : decode cX6_readWalker 37 = .ok (.if_icmp .ne 7, 3) := by decide +kernel
theorem dX6_readWalker_40 : decode cX6_readWalker 40 = .ok (.iconst (-1), 1) := by decide +kernel
theorem dX6_readWalker_41 : decode cX6_readWalker 41 = .ok (.goto 10, 3) := by decide +kernel
theorem dX6_readWalker_44 : decode cX6_readWalker 44 = .ok (.aload_n 0, 1) := by decide +kernel
theorem dX6_readWalker_45 : decode cX6_readWalker 45 = .ok (.iconst 0, 1) := by decide +kernel
theorem dX6_readWalker_46 : decode cX6_readWalker 46 = .ok (.bipush 60, 2) := by decide +kernel
theorem dX6_readWalker_48 : decode cX6_readWalker 48 = .ok (.invokevirtual 95, 3) := by decide +kernel
theorem dX6_readWalker_51 : decode cX6_readWalker 51 = .ok (.istore_n 3, 1) := by decide +kernel
theorem dX6_readWalker_52 : decode cX6_readWalker 52 = .ok (.iload_n 3, 1) := by decide +kernel
theorem dX6_readWalker_53 : decode cX6_readWalker 53 = .ok (.iconst (-1), 1) := by decide +kernel
theorem dX6_readWalker_54 : decode cX6_readWalker 54 = .ok (.if_icmp .ne 5, 3) := by decide +kernel
theorem dX6_readWalker_57 : decode cX6_readWalker 57 = .ok (.iconst 0, 1) := by decide +kernel
theorem dX6_readWalker_58 : decode cX6_readWalker 58 = .ok (.ireturn, 1) := by decide +kernel
theorem dX6_readWalker_59 : decode cX6_readWalker 59 = .ok (.aload_n 0, 1) := by decide +kernel
theorem dX6_readWalker_60 : decode cX6_readWalker 60 = .ok (.getfield 20, 3) := by decide +kernel
theorem dX6_readWalker_63 : decode cX6_readWalker 63 = .ok (.getfield 56, 3) := by decide +kernel
theorem dX6_readWalker_66 : decode cX6_readWalker 66 = .ok (.bipush 13, 2) := by decide +kernel
theorem dX6_readWalker_68 : decode cX6_readWalker 68 = .ok (.if_icmp .ne 59, 3) := by decide +kernel
theorem dX6_readWalker_71 : decode cX6_readWalker 71 = .ok (.aload_n 0, 1) := by decide +kernel
theorem dX6_readWalker_72 : decode cX6_readWalker 72 = .ok (.getfield 20, 3) := by decide +kernel
theorem dX6_readWalker_75 : decode cX6_readWalker 75 = .ok (.invokevirtual 115, 3) := by decide +kernel
theorem dX6_readWalker_78 : decode cX6_readWalker 78 = .ok (.aload_n 0, 1) := by decide +kernel
theorem dX6_readWalker_79 : decode cX6_readWalker 79 = .ok (.iconst 1, 1) := by decide +kernel
theorem dX6_readWalker_80 : decode cX6_readWalker 80 = .ok (.putfield 48, 3) := by decide +kernel
theorem dX6_readWalker_83 : decode cX6_readWalker 83 = .ok (.aload_n 0, 1) := by decide +kernel
theorem dX6_readWalker_84 : decode cX6_readWalker 84 = .ok (.iconst 0, 1) := by decide +kernel
theorem dX6_readWalker_85 : decode cX6_readWalker 85 = .ok (.aload_n 0, 1) := by decide +kernel
theorem dX6_readWalker_86 : decode cX6_readWalker 86 = .ok (.getfield 33, 3) := by decide +kernel
theorem dX6_readWalker_89 : decode cX6_readWalker 89 = .ok (.getfield 99, 3) := by decide +kernel
theorem dX6_readWalker_92 : decode cX6_readWalker 92 = .ok (.iconst 1, 1) := by decide +kernel
theorem dX6_readWalker_93 : decode cX6_readWalker 93 = .ok (.isub, 1) := by decide +kernel
theorem dX6_readWalker_94 : decode cX6_readWalker 94 = .ok (.invokevirtual 95, 3) := by decide +kernel
theorem dX6_readWalker_97 : decode cX6_readWalker 97 = .ok (.istore 4, 2) := by decide +kernel
theorem dX6_readWalker_99 : decode cX6_readWalker 99 = .ok (.aload_n 0, 1) := by decide +kernel
theorem dX6_readWalker_100 : decode cX6_readWalker 100 = .ok (.getfield 33, 3) := by decide +kernel
theorem dX6_readWalker_103 : decode cX6_readWalker 103 = .ok (.getfield 118, 3) := by decide +kernel
theorem dX6_readWalker_106 : decode cX6_readWalker 106 = .ok (.iload_n 1, 1) := by decide +kernel
theorem dX6_readWalker_107 : decode cX6_readWalker 107 = .ok (.iload_n 2, 1) := by decide +kernel
theorem dX6_readWalker_108 : decode cX6_readWalker 108 = .ok (.iload_n 3, 1) := by decide +kernel
theorem dX6_readWalker_109 : decode cX6_readWalker 109 = .ok (.iconst 0, 1) := by decide +kernel
theorem dX6_readWalker_110 : decode cX6_readWalker 110 = .ok (.iload 4, 2) := by decide +kernel
theorem dX6_readWalker_112 : decode cX6_readWalker 112 = .ok (.invokevirtual 122, 3) := by decide +kernel
theorem dX6_readWalker_115 : decode cX6_readWalker 115 = .ok (.iload 4, 2) := by decide +kernel
theorem dX6_readWalker_117 : decode cX6_readWalker 117 = .ok (.iconst (-1), 1) := by decide +kernel
theorem dX6_readWalker_118 : decode cX6_readWalker 118 = .ok (.if_icmp .eq 7, 3) := by decide +kernel
theorem dX6_readWalker_121 : decode cX6_readWalker 121 = .ok (.iconst 1, 1) := by decide +kernel
theorem dX6_readWalker_122 : decode cX6_readWalker 122 = .ok (.goto 4, 3) := by decide +kernel
theorem dX6_readWalker_125 : decode cX6_readWalker 125 = .ok (.iconst 0, 1) := by decide +kernel
theorem dX6_readWalker_126 : decode cX6_readWalker 126 = .ok (.ireturn, 1) := by decide +kernel
theorem dX6_readWalker_127 : decode cX6_readWalker 127 = .ok (.aload_n 0, 1) := by decide +kernel
theorem dX6_readWalker_128 : decode cX6_readWalker 128 = .ok (.getfield 33, 3) := by decide +kernel
theorem dX6_readWalker_131 : decode cX6_readWalker 131 = .ok (.getfield 118, 3) := by decide +kernel
theorem dX6_readWalker_134 : decode cX6_readWalker 134 = .ok (.iload_n 1, 1) := by decide +kernel
theorem dX6_readWalker_135 : decode cX6_readWalker 135 = .ok (.iload_n 2, 1) := by decide +kernel
theorem dX6_readWalker_136 : decode cX6_readWalker 136 = .ok (.iload_n 3, 1) := by decide +kernel
theorem dX6_readWalker_137 : decode cX6_readWalker 137 = .ok (.aload_n 0, 1) := by decide +kernel
theorem dX6_readWalker_138 : decode cX6_readWalker 138 = .ok (.getfield 20, 3) := by decide +kernel
theorem dX6_readWalker_141 : decode cX6_readWalker 141 = .ok (.getfield 56, 3) := by decide +kernel
theorem dX6_readWalker_144 : decode cX6_readWalker 144 = .ok (.bipush 12, 2) := by decide +kernel
theorem dX6_readWalker_146 : decode cX6_readWalker 146 = .ok (.if_icmp .ne 7, 3) := by decide +kernel
theorem dX6_readWalker_149 : decode cX6_readWalker 149 = .ok (.iconst (-1), 1) := by decide +kernel
theorem dX6_readWalker_150 : decode cX6_readWalker 150 = .ok (.goto 4, 3) := by decide +kernel
theorem dX6_readWalker_153 : decode cX6_readWalker 153 = .ok (.iconst 1, 1) := by decide +kernel
theorem dX6_readWalker_154 : decode cX6_readWalker 154 = .ok (.iconst 0, 1) := by decide +kernel
theorem dX6_readWalker_155 : decode cX6_readWalker 155 = .ok (.invokevirtual 122, 3) := by decide +kernel
theorem dX6_readWalker_158 : decode cX6_readWalker 158 = .ok (.aload_n 0, 1) := by decide +kernel
theorem dX6_readWalker_159 : decode cX6_readWalker 159 = .ok (.getfield 20, 3) := by decide +kernel
theorem dX6_readWalker_162 : decode cX6_readWalker 162 = .ok (.getfield 56, 3) := by decide +kernel
theorem dX6_readWalker_165 : decode cX6_readWalker 165 = .ok (.bipush 12, 2) := by decide +kernel
theorem dX6_readWalker_167 : decode cX6_readWalker 167 = .ok (.if_icmp .ne 12, 3) := by decide +kernel
theorem dX6_readWalker_170 : decode cX6_readWalker 170 = .ok (.aload_n 0, 1) := by decide +kernel
theorem dX6_readWalker_171 : decode cX6_readWalker 171 = .ok (.bipush 12, 2) := by decide +kernel
theorem dX6_readWalker_173 : decode cX6_readWalker 173 = .ok (.invokevirtual 63, 3) := by decide +kernel
theorem dX6_readWalker_176 : decode cX6_readWalker 176 = .ok (.goto 9, 3) := by decide +kernel
theorem dX6_readWalker_179 : decode cX6_readWalker 179 = .ok (.aload_n 0, 1) := by decide +kernel
theorem dX6_readWalker_180 : decode cX6_readWalker 180 = .ok (.bipush 11, 2) := by decide +kernel
theorem dX6_readWalker_182 : decode cX6_readWalker 182 = .ok (.invokevirtual 63, 3) := by decide +kernel
theorem dX6_readWalker_185 : decode cX6_readWalker 185 = .ok (.ireturn, 1) := by decide +kernel
theorem dX6_readFat_0 : decode cX6_readFat 0 = .ok (.aload_n 0, 1) := by decide +kernel
theorem dX6_readFat_1 : decode cX6_readFat 1 = .ok (.iconst 1, 1) := by decide +kernel
theorem dX6_readFat_2 : decode cX6_readFat 2 = .ok (.invokevirtual 112, 3) := by decide +kernel
theorem dX6_readFat_5 : decode cX6_readFat 5 = .ok (.ifCond .ne 5, 3) := by decide +kernel
theorem dX6_readFat_8 : decode cX6_readFat 8 = .ok (.iconst 0, 1) := by decide +kernel
theorem dX6_readFat_9 : decode cX6_readFat 9 = .ok (.ireturn, 1) := by decide +kernel
theorem dX6_readFat_10 : decode cX6_readFat 10 = .ok (.aload_n 0, 1) := by decide +kernel
theorem dX6_readFat_11 : decode cX6_readFat 11 = .ok (.getfield 20, 3) := by decide +kernel
theorem dX6_readFat_14 : decode cX6_readFat 14 = .ok (.getfield 128, 3) := by decide +kernel
theorem dX6_readFat_17 : decode cX6_readFat 17 = .ok (.istore_n 1, 1) := by decide +kernel
theorem dX6_readFat_18 : decode cX6_readFat 18 = .ok (.aload_n 0, 1) := by decide +kernel
theorem dX6_readFat_19 : decode cX6_readFat 19 = .ok (.iconst 1, 1) := by decide +kernel
theorem dX6_readFat_20 : decode cX6_readFat 20 = .ok (.putfield 48, 3) := by decide +kernel
theorem dX6_readFat_23 : decode cX6_readFat 23 = .ok (.aload_n 0, 1) := by decide +kernel
theorem dX6_readFat_24 : decode cX6_readFat 24 = .ok (.iconst 0, 1) := by decide +kernel
theorem dX6_readFat_25 : decode cX6_readFat 25 = .ok (.aload_n 0, 1) := by decide +kernel
theorem dX6_readFat_26 : decode cX6_readFat 26 = .ok (.getfield 33, 3) := by decide +kernel
theorem dX6_readFat_29 : decode cX6_readFat 29 = .ok (.getfield 99, 3) := by decide +kernel
theorem dX6_readFat_32 : decode cX6_readFat 32 = .ok (.iconst 1, 1) := by decide +kernel
theorem dX6_readFat_33 : decode cX6_readFat 33 = .ok (.isub, 1) := by decide +kernel
theorem dX6_readFat_34 : decode cX6_readFat 34 = .ok (.invokevirtual 95, 3) := by decide +kernel
theorem dX6_readFat_37 : decode cX6_readFat 37 = .ok (.istore_n 2, 1) := by decide +kernel
theorem dX6_readFat_38 : decode cX6_readFat 38 = .ok (.iload_n 2, 1) := by decide +kernel
theorem dX6_readFat_39 : decode cX6_readFat 39 = .ok (.iconst (-1), 1) := by decide +kernel
theorem dX6_readFat_40 : decode cX6_readFat 40 = .ok (.if_icmp .ne 5, 3) := by decide +kernel
theorem dX6_readFat_43 : decode cX6_readFat 43 = .ok (.iconst 0, 1) := by decide +kernel
theorem dX6_readFat_44 : decode cX6_readFat 44 = .ok (.ireturn, 1) := by decide +kernel
theorem dX6_readFat_45 : decode cX6_readFat 45 = .ok (.aload_n 0, 1) := by decide +kernel
theorem dX6_readFat_46 : decode cX6_readFat 46 = .ok (.getfield 33, 3) := by decide +kernel
theorem dX6_readFat_49 : decode cX6_readFat 49 = .ok (.getfield 129, 3) := by decide +kernel
theorem dX6_readFat_52 : decode cX6_readFat 52 = .ok (.iload_n 2, 1) := by decide +kernel
theorem dX6_readFat_53 : decode cX6_readFat 53 = .ok (.invokevirtual 133, 3) := by decide +kernel
theorem dX6_readFat_56 : decode cX6_readFat 56 = .ok (.ifCond .eq 10, 3) := by decide +kernel
theorem dX6_readFat_59 : decode cX6_readFat 59 = .ok (.aload_n 0, 1) := by decide +kernel
theorem dX6_readFat_60 : decode cX6_readFat 60 = .ok (.iconst 5, 1) := by decide +kernel
theorem dX6_readFat_61 : decode cX6_readFat 61 = .ok (.iload_n 1, 1) := by decide +kernel
theorem dX6_readFat_62 : decode cX6_readFat 62 = .ok (.invokevirtual 138, 3) := by decide +kernel
theorem dX6_readFat_65 : decode cX6_readFat 65 = .ok (.ireturn, 1) := by decide +kernel
theorem dX6_readFat_66 : decode cX6_readFat 66 = .ok (.aload_n 0, 1) := by decide +kernel
theorem dX6_readFat_67 : decode cX6_readFat 67 = .ok (.iconst 1, 1) := by decide +kernel
theorem dX6_readFat_68 : decode cX6_readFat 68 = .ok (.bipush 99, 2) := by decide +kernel
theorem dX6_readFat_70 : decode cX6_readFat 70 = .ok (.invokevirtual 95, 3) := by decide +kernel
theorem dX6_readFat_73 : decode cX6_readFat 73 = .ok (.istore_n 3, 1) := by decide +kernel
theorem dX6_readFat_74 : decode cX6_readFat 74 = .ok (.aload_n 0, 1) := by decide +kernel
theorem dX6_readFat_75 : decode cX6_readFat 75 = .ok (.getfield 33, 3) := by decide +kernel
theorem dX6_readFat_78 : decode cX6_readFat 78 = .ok (.getfield 129, 3) := by decide +kernel
theorem dX6_readFat_81 : decode cX6_readFat 81 = .ok (.iload_n 2, 1) := by decide +kernel
theorem dX6_readFat_82 : decode cX6_readFat 82 = .ok (.iload_n 3, 1) := by decide +kernel
theorem dX6_readFat_83 : decode cX6_readFat 83 = .ok (.invokevirtual 142, 3) := by decide +kernel
theorem dX6_readFat_86 : decode cX6_readFat 86 = .ok (.iload_n 3, 1) := by decide +kernel
theorem dX6_readFat_87 : decode cX6_readFat 87 = .ok (.iconst (-1), 1) := by decide +kernel
theorem dX6_readFat_88 : decode cX6_readFat 88 = .ok (.if_icmp .eq 7, 3) := by decide +kernel
theorem dX6_readFat_91 : decode cX6_readFat 91 = .ok (.iconst 1, 1) := by decide +kernel
theorem dX6_readFat_92 : decode cX6_readFat 92 = .ok (.goto 4, 3) := by decide +kernel
theorem dX6_readFat_95 : decode cX6_readFat 95 = .ok (.iconst 0, 1) := by decide +kernel
theorem dX6_readFat_96 : decode cX6_readFat 96 = .ok (.ireturn, 1) := by decide +kernel
theorem dX6_readSleeper_0 : decode cX6_readSleeper 0 = .ok (.aload_n 0, 1) := by decide +kernel
theorem dX6_readSleeper_1 : decode cX6_readSleeper 1 = .ok (.getfield 33, 3) := by decide +kernel
theorem dX6_readSleeper_4 : decode cX6_readSleeper 4 = .ok (.getfield 144, 3) := by decide +kernel
theorem dX6_readSleeper_7 : decode cX6_readSleeper 7 = .ok (.iconst 2, 1) := by decide +kernel
theorem dX6_readSleeper_8 : decode cX6_readSleeper 8 = .ok (.iaload, 1) := by decide +kernel
theorem dX6_readSleeper_9 : decode cX6_readSleeper 9 = .ok (.istore_n 1, 1) := by decide +kernel
theorem dX6_readSleeper_10 : decode cX6_readSleeper 10 = .ok (.aload_n 0, 1) := by decide +kernel
theorem dX6_readSleeper_11 : decode cX6_readSleeper 11 = .ok (.iconst 2, 1) := by decide +kernel
theorem dX6_readSleeper_12 : decode cX6_readSleeper 12 = .ok (.invokevirtual 112, 3) := by decide +kernel
theorem dX6_readSleeper_15 : decode cX6_readSleeper 15 = .ok (.ifCond .ne 5, 3) := by decide +kernel
theorem dX6_readSleeper_18 : decode cX6_readSleeper 18 = .ok (.iconst 0, 1) := by decide +kernel
theorem dX6_readSleeper_19 : decode cX6_readSleeper 19 = .ok (.ireturn, 1) := by decide +kernel
theorem dX6_readSleeper_20 : decode cX6_readSleeper 20 = .ok (.aload_n 0, 1) := by decide +kernel
theorem dX6_readSleeper_21 : decode cX6_readSleeper 21 = .ok (.iconst 1, 1) := by decide +kernel
theorem dX6_readSleeper_22 : decode cX6_readSleeper 22 = .ok (.putfield 48, 3) := by decide +kernel
theorem dX6_readSleeper_25 : decode cX6_readSleeper 25 = .ok (.aload_n 0, 1) := by decide +kernel
theorem dX6_readSleeper_26 : decode cX6_readSleeper 26 = .ok (.iconst 0, 1) := by decide +kernel
theorem dX6_readSleeper_27 : decode cX6_readSleeper 27 = .ok (.aload_n 0, 1) := by decide +kernel
theorem dX6_readSleeper_28 : decode cX6_readSleeper 28 = .ok (.getfield 33, 3) := by decide +kernel
theorem dX6_readSleeper_31 : decode cX6_readSleeper 31 = .ok (.getfield 99, 3) := by decide +kernel
theorem dX6_readSleeper_34 : decode cX6_readSleeper 34 = .ok (.iconst 1, 1) := by decide +kernel
theorem dX6_readSleeper_35 : decode cX6_readSleeper 35 = .ok (.isub, 1) := by decide +kernel
theorem dX6_readSleeper_36 : decode cX6_readSleeper 36 = .ok (.invokevirtual 95, 3) := by decide +kernel
theorem dX6_readSleeper_39 : decode cX6_readSleeper 39 = .ok (.istore_n 2, 1) := by decide +kernel
theorem dX6_readSleeper_40 : decode cX6_readSleeper 40 = .ok (.iload_n 2, 1) := by decide +kernel
theorem dX6_readSleeper_41 : decode cX6_readSleeper 41 = .ok (.iconst (-1), 1) := by decide +kernel
theorem dX6_readSleeper_42 : decode cX6_readSleeper 42 = .ok (.if_icmp .ne 7, 3) := by decide +kernel
theorem dX6_readSleeper_45 : decode cX6_readSleeper 45 = .ok (.iconst (-1), 1) := by decide +kernel
theorem dX6_readSleeper_46 : decode cX6_readSleeper 46 = .ok (.goto 11, 3) := by decide +kernel
theorem dX6_readSleeper_49 : decode cX6_readSleeper 49 = .ok (.aload_n 0, 1) := by decide +kernel
theorem dX6_readSleeper_50 : decode cX6_readSleeper 50 = .ok (.iconst 1, 1) := by decide +kernel
theorem dX6_readSleeper_51 : decode cX6_readSleeper 51 = .ok (.sipush 9999, 3) := by decide +kernel
theorem dX6_readSleeper_54 : decode cX6_readSleeper 54 = .ok (.invokevirtual 95, 3) := by decide +kernel
theorem dX6_readSleeper_57 : decode cX6_readSleeper 57 = .ok (.istore_n 3, 1) := by decide +kernel
theorem dX6_readSleeper_58 : decode cX6_readSleeper 58 = .ok (.iload_n 3, 1) := by decide +kernel
theorem dX6_readSleeper_59 : decode cX6_readSleeper 59 = .ok (.iconst (-1), 1) := by decide +kernel
theorem dX6_readSleeper_60 : decode cX6_readSleeper 60 = .ok (.if_icmp .eq 8, 3) := by decide +kernel
theorem dX6_readSleeper_63 : decode cX6_readSleeper 63 = .ok (.iload_n 1, 1) := by decide +kernel
theorem dX6_readSleeper_64 : decode cX6_readSleeper 64 = .ok (.iconst 4, 1) := by decide +kernel
theorem dX6_readSleeper_65 : decode cX6_readSleeper 65 = .ok (.if_icmp .lt 5, 3) := by decide +kernel
theorem dX6_readSleeper_68 : decode cX6_readSleeper 68 = .ok (.iconst 0, 1) := by decide +kernel
theorem dX6_readSleeper_69 : decode cX6_readSleeper 69 = .ok (.ireturn, 1) := by decide +kernel
theorem dX6_readSleeper_70 : decode cX6_readSleeper 70 = .ok (.aload_n 0, 1) := by decide +kernel
theorem dX6_readSleeper_71 : decode cX6_readSleeper 71 = .ok (.getfield 33, 3) := by decide +kernel
theorem dX6_readSleeper_74 : decode cX6_readSleeper 74 = .ok (.getfield 147, 3) := by decide +kernel
theorem dX6_readSleeper_77 : decode cX6_readSleeper 77 = .ok (.iload_n 1, 1) := by decide +kernel
theorem dX6_readSleeper_78 : decode cX6_readSleeper 78 = .ok (.iload_n 2, 1) := by decide +kernel
theorem dX6_readSleeper_79 : decode cX6_readSleeper 79 = .ok (.iastore, 1) := by decide +kernel
theorem dX6_readSleeper_80 : decode cX6_readSleeper 80 = .ok (.aload_n 0, 1) := by decide +kernel
theorem dX6_readSleeper_81 : decode cX6_readSleeper 81 = .ok (.getfield 33, 3) := by decide +kernel
theorem dX6_readSleeper_84 : decode cX6_readSleeper 84 = .ok (.getfield 150, 3) := by decide +kernel
theorem dX6_readSleeper_87 : decode cX6_readSleeper 87 = .ok (.iload_n 1, 1) := by decide +kernel
theorem dX6_readSleeper_88 : decode cX6_readSleeper 88 = .ok (.iload_n 3, 1) := by decide +kernel
theorem dX6_readSleeper_89 : decode cX6_readSleeper 89 = .ok (.iastore, 1) := by decide +kernel
theorem dX6_readSleeper_90 : decode cX6_readSleeper 90 = .ok (.iconst 1, 1) := by decide +kernel
theorem dX6_readSleeper_91 : decode cX6_readSleeper 91 = .ok (.ireturn, 1) := by decide +kernel
theorem dX6_readMay_0 : decode cX6_readMay 0 = .ok (.aload_n 0, 1) := by decide +kernel
theorem dX6_readMay_1 : decode cX6_readMay 1 = .ok (.getfield 33, 3) := by decide +kernel
theorem dX6_readMay_4 : decode cX6_readMay 4 = .ok (.getfield 144, 3) := by decide +kernel
theorem dX6_readMay_7 : decode cX6_readMay 7 = .ok (.iconst 3, 1) := by decide +kernel
theorem dX6_readMay_8 : decode cX6_readMay 8 = .ok (.iaload, 1) := by decide +kernel
theorem dX6_readMay_9 : decode cX6_readMay 9 = .ok (.istore_n 1, 1) := by decide +kernel
theorem dX6_readMay_10 : decode cX6_readMay 10 = .ok (.aload_n 0, 1) := by decide +kernel
theorem dX6_readMay_11 : decode cX6_readMay 11 = .ok (.iconst 3, 1) := by decide +kernel
theorem dX6_readMay_12 : decode cX6_readMay 12 = .ok (.invokevirtual 112, 3) := by decide +kernel
theorem dX6_readMay_15 : decode cX6_readMay 15 = .ok (.ifCond .eq 8, 3) := by decide +kernel
theorem dX6_readMay_18 : decode cX6_readMay 18 = .ok (.iload_n 1, 1) := by decide +kernel
theorem dX6_readMay_19 : decode cX6_readMay 19 = .ok (.iconst 3, 1) := by decide +kernel
theorem dX6_readMay_20 : decode cX6_readMay 20 = .ok (.if_icmp .lt 5, 3) := by decide +kernel
theorem dX6_readMay_23 : decode cX6_readMay 23 = .ok (.iconst 0, 1) := by decide +kernel
theorem dX6_readMay_24 : decode cX6_readMay 24 = .ok (.ireturn, 1) := by decide +kernel
theorem dX6_readMay_25 : decode cX6_readMay 25 = .ok (.aload_n 0, 1) := by decide +kernel
theorem dX6_readMay_26 : decode cX6_readMay 26 = .ok (.getfield 29, 3) := by decide +kernel
theorem dX6_readMay_29 : decode cX6_readMay 29 = .ok (.aload_n 0, 1) := by decide +kernel
theorem dX6_readMay_30 : decode cX6_readMay 30 = .ok (.getfield 33, 3) := by decide +kernel
theorem dX6_readMay_33 : decode cX6_readMay 33 = .ok (.aload_n 0, 1) := by decide +kernel
theorem dX6_readMay_34 : decode cX6_readMay 34 = .ok (.getfield 33, 3) := by decide +kernel
theorem dX6_readMay_37 : decode cX6_readMay 37 = .ok (.getfield 153, 3) := by decide +kernel
theorem dX6_readMay_40 : decode cX6_readMay 40 = .ok (.iload_n 1, 1) := by decide +kernel
theorem dX6_readMay_41 : decode cX6_readMay 41 = .ok (.aaload, 1) := by decide +kernel
theorem dX6_readMay_42 : decode cX6_readMay 42 = .ok (.invokevirtual 157, 3) := by decide +kernel
theorem dX6_readMay_45 : decode cX6_readMay 45 = .ok (.istore_n 2, 1) := by decide +kernel
theorem dX6_readMay_46 : decode cX6_readMay 46 = .ok (.iload_n 2, 1) := by decide +kernel
theorem dX6_readMay_47 : decode cX6_readMay 47 = .ok (.ifCond .eq 11, 3) := by decide +kernel
theorem dX6_readMay_50 : decode cX6_readMay 50 = .ok (.aload_n 0, 1) := by decide +kernel
theorem dX6_readMay_51 : decode cX6_readMay 51 = .ok (.iload_n 2, 1) := by decide +kernel
theorem dX6_readMay_52 : decode cX6_readMay 52 = .ok (.invokevirtual 89, 3) := by decide +kernel
theorem dX6_readMay_55 : decode cX6_readMay 55 = .ok (.ifCond .eq 7, 3) := by decide +kernel
theorem dX6_readMay_58 : decode cX6_readMay 58 = .ok (.iconst 1, 1) := by decide +kernel
theorem dX6_readMay_59 : decode cX6_readMay 59 = .ok (.goto 4, 3) := by decide +kernel
theorem dX6_readMay_62 : decode cX6_readMay 62 = .ok (.iconst 0, 1) := by decide +kernel
theorem dX6_readMay_63 : decode cX6_readMay 63 = .ok (.ireturn, 1) := by decide +kernel
theorem dX6_readLaw_0 : decode cX6_readLaw 0 = .ok (.aload_n 0, 1) := by decide +kernel
theorem dX6_readLaw_1 : decode cX6_readLaw 1 = .ok (.getfield 20, 3) := by decide +kernel
theorem dX6_readLaw_4 : decode cX6_readLaw 4 = .ok (.invokevirtual 115, 3) := by decide +kernel
theorem dX6_readLaw_7 : decode cX6_readLaw 7 = .ok (.aload_n 0, 1) := by decide +kernel
theorem dX6_readLaw_8 : decode cX6_readLaw 8 = .ok (.getfield 20, 3) := by decide +kernel
theorem dX6_readLaw_11 : decode cX6_readLaw 11 = .ok (.getfield 56, 3) := by decide +kernel
theorem dX6_readLaw_14 : decode cX6_readLaw 14 = .ok (.istore_n 1, 1) := by decide +kernel
theorem dX6_readLaw_15 : decode cX6_readLaw 15 = .ok (.iload_n 1, 1) := by decide +kernel
theorem dX6_readLaw_16 : decode cX6_readLaw 16 = .ok (.bipush 14, 2) := by decide +kernel
theorem dX6_readLaw_18 : decode cX6_readLaw 18 = .ok (.if_icmp .eq 15, 3) := by decide +kernel
theorem dX6_readLaw_21 : decode cX6_readLaw 21 = .ok (.iload_n 1, 1) := by decide +kernel
theorem dX6_readLaw_22 : decode cX6_readLaw 22 = .ok (.bipush 15, 2) := by decide +kernel
theorem dX6_readLaw_24 : decode cX6_readLaw 24 = .ok (.if_icmp .eq 9, 3) := by decide +kernel
theorem dX6_readLaw_27 : decode cX6_readLaw 27 = .ok (.aload_n 0, 1) := by decide +kernel
theorem dX6_readLaw_28 : decode cX6_readLaw 28 = .ok (.iconst 1, 1) := by decide +kernel
theorem dX6_readLaw_29 : decode cX6_readLaw 29 = .ok (.invokevirtual 89, 3) := by decide +kernel
theorem dX6_readLaw_32 : decode cX6_readLaw 32 = .ok (.ireturn, 1) := by decide +kernel
theorem dX6_readLaw_33 : decode cX6_readLaw 33 = .ok (.aload_n 0, 1) := by decide +kernel
theorem dX6_readLaw_34 : decode cX6_readLaw 34 = .ok (.invokevirtual 92, 3) := by decide +kernel
theorem dX6_readLaw_37 : decode cX6_readLaw 37 = .ok (.ifCond .ne 5, 3) := by decide +kernel
theorem dX6_readLaw_40 : decode cX6_readLaw 40 = .ok (.iconst 0, 1) := by decide +kernel
theorem dX6_readLaw_41 : decode cX6_readLaw 41 = .ok (.ireturn, 1) := by decide +kernel
theorem dX6_readLaw_42 : decode cX6_readLaw 42 = .ok (.aload_n 0, 1) := by decide +kernel
theorem dX6_readLaw_43 : decode cX6_readLaw 43 = .ok (.getfield 29, 3) := by decide +kernel
theorem dX6_readLaw_46 : decode cX6_readLaw 46 = .ok (.aload_n 0, 1) := by decide +kernel
theorem dX6_readLaw_47 : decode cX6_readLaw 47 = .ok (.getfield 33, 3) := by decide +kernel
theorem dX6_readLaw_50 : decode cX6_readLaw 50 = .ok (.iload_n 1, 1) := by decide +kernel
theorem dX6_readLaw_51 : decode cX6_readLaw 51 = .ok (.bipush 14, 2) := by decide +kernel
theorem dX6_readLaw_53 : decode cX6_readLaw 53 = .ok (.if_icmp .ne 13, 3) := by decide +kernel
theorem dX6_readLaw_56 : decode cX6_readLaw 56 = .ok (.aload_n 0, 1) := by decide +kernel
theorem dX6_readLaw_57 : decode cX6_readLaw 57 = .ok (.getfield 33, 3) := by decide +kernel
theorem dX6_readLaw_60 : decode cX6_readLaw 60 = .ok (.getfield 161, 3) := by decide +kernel
theorem dX6_readLaw_63 : decode cX6_readLaw 63 = .ok (.goto 10, 3) := by decide +kernel
theorem dX6_readLaw_66 : decode cX6_readLaw 66 = .ok (.aload_n 0, 1) := by decide +kernel
theorem dX6_readLaw_67 : decode cX6_readLaw 67 = .ok (.getfield 33, 3) := by decide +kernel
theorem dX6_readLaw_70 : decode cX6_readLaw 70 = .ok (.getfield 165, 3) := by decide +kernel
theorem dX6_readLaw_73 : decode cX6_readLaw 73 = .ok (.invokevirtual 157, 3) := by decide +kernel
theorem dX6_readLaw_76 : decode cX6_readLaw 76 = .ok (.istore_n 2, 1) := by decide +kernel
theorem dX6_readLaw_77 : decode cX6_readLaw 77 = .ok (.iload_n 2, 1) := by decide +kernel
theorem dX6_readLaw_78 : decode cX6_readLaw 78 = .ok (.ifCond .eq 11, 3) := by decide +kernel
theorem dX6_readLaw_81 : decode cX6_readLaw 81 = .ok (.aload_n 0, 1) := by decide +kernel
theorem dX6_readLaw_82 : decode cX6_readLaw 82 = .ok (.iload_n 2, 1) := by decide +kernel
theorem dX6_readLaw_83 : decode cX6_readLaw 83 = .ok (.invokevirtual 89, 3) := by decide +kernel
theorem dX6_readLaw_86 : decode cX6_readLaw 86 = .ok (.ifCond .eq 7, 3) := by decide +kernel
theorem dX6_readLaw_89 : decode cX6_readLaw 89 = .ok (.iconst 1, 1) := by decide +kernel
theorem dX6_readLaw_90 : decode cX6_readLaw 90 = .ok (.goto 4, 3) := by decide +kernel
theorem dX6_readLaw_93 : decode cX6_readLaw 93 = .ok (.iconst 0, 1) := by decide +kernel
theorem dX6_readLaw_94 : decode cX6_readLaw 94 = .ok (.ireturn, 1) := by decide +kernel
theorem dX6_take_0 : decode cX6_take 0 = .ok (.aload_n 0, 1) := by decide +kernel
theorem dX6_take_1 : decode cX6_take 1 = .ok (.getfield 20, 3) := by decide +kernel
theorem dX6_take_4 : decode cX6_take 4 = .ok (.getfield 56, 3) := by decide +kernel
theorem dX6_take_7 : decode cX6_take 7 = .ok (.iload_n 1, 1) := by decide +kernel
theorem dX6_take_8 : decode cX6_take 8 = .ok (.if_icmp .eq 9, 3) := by decide +kernel
theorem dX6_take_11 : decode cX6_take 11 = .ok (.aload_n 0, 1) := by decide +kernel
theorem dX6_take_12 : decode cX6_take 12 = .ok (.iconst 1, 1) := by decide +kernel
theorem dX6_take_13 : decode cX6_take 13 = .ok (.invokevirtual 89, 3) := by decide +kernel
theorem dX6_take_16 : decode cX6_take 16 = .ok (.ireturn, 1) := by decide +kernel
theorem dX6_take_17 : decode cX6_take 17 = .ok (.aload_n 0, 1) := by decide +kernel
theorem dX6_take_18 : decode cX6_take 18 = .ok (.getfield 20, 3) := by decide +kernel
theorem dX6_take_21 : decode cX6_take 21 = .ok (.invokevirtual 115, 3) := by decide +kernel
theorem dX6_take_24 : decode cX6_take 24 = .ok (.iconst 1, 1) := by decide +kernel
theorem dX6_take_25 : decode cX6_take 25 = .ok (.ireturn, 1) := by decide +kernel
theorem dX6_takeOnce_0 : decode cX6_takeOnce 0 = .ok (.iconst 1, 1) := by decide +kernel
theorem dX6_takeOnce_1 : decode cX6_takeOnce 1 = .ok (.aload_n 0, 1) := by decide +kernel
theorem dX6_takeOnce_2 : decode cX6_takeOnce 2 = .ok (.getfield 20, 3) := by decide +kernel
theorem dX6_takeOnce_5 : decode cX6_takeOnce 5 = .ok (.getfield 56, 3) := by decide +kernel
theorem dX6_takeOnce_8 : decode cX6_takeOnce 8 = .ok (.ishl, 1) := by decide +kernel
theorem dX6_takeOnce_9 : decode cX6_takeOnce 9 = .ok (.istore_n 1, 1) := by decide +kernel
theorem dX6_takeOnce_10 : decode cX6_takeOnce 10 = .ok (.aload_n 0, 1) := by decide +kernel
theorem dX6_takeOnce_11 : decode cX6_takeOnce 11 = .ok (.getfield 45, 3) := by decide +kernel
theorem dX6_takeOnce_14 : decode cX6_takeOnce 14 = .ok (.iload_n 1, 1) := by decide +kernel
theorem dX6_takeOnce_15 : decode cX6_takeOnce 15 = .ok (.iand, 1) := by decide +kernel
theorem dX6_takeOnce_16 : decode cX6_takeOnce 16 = .ok (.ifCond .eq 9, 3) := by decide +kernel
theorem dX6_takeOnce_19 : decode cX6_takeOnce 19 = .ok (.aload_n 0, 1) := by decide +kernel
theorem dX6_takeOnce_20 : decode cX6_takeOnce 20 = .ok (.iconst 3, 1) := by decide +kernel
theorem dX6_takeOnce_21 : decode cX6_takeOnce 21 = .ok (.invokevirtual 89, 3) := by decide +kernel
theorem dX6_takeOnce_24 : decode cX6_takeOnce 24 = .ok (.ireturn, 1) := by decide +kernel
theorem dX6_takeOnce_25 : decode cX6_takeOnce 25 = .ok (.aload_n 0, 1) := by decide +kernel
theorem dX6_takeOnce_26 : decode cX6_takeOnce 26 = .ok (.getfield 20, 3) := by decide +kernel
theorem dX6_takeOnce_29 : decode cX6_takeOnce 29 = .ok (.getfield 56, 3) := by decide +kernel
theorem dX6_takeOnce_32 : decode cX6_takeOnce 32 = .ok (.ifCond .ne 16, 3) := by decide +kernel
theorem dX6_takeOnce_35 : decode cX6_takeOnce 35 = .ok (.aload_n 0, 1) := by decide +kernel
theorem dX6_takeOnce_36 : decode cX6_takeOnce 36 = .ok (.getfield 48, 3) := by decide +kernel
theorem dX6_takeOnce_39 : decode cX6_takeOnce 39 = .ok (.ifCond .eq 9, 3) := by decide +kernel
theorem dX6_takeOnce_42 : decode cX6_takeOnce 42 = .ok (.aload_n 0, 1) := by decide +kernel
theorem dX6_takeOnce_43 : decode cX6_takeOnce 43 = .ok (.iconst 4, 1) := by decide +kernel
theorem dX6_takeOnce_44 : decode cX6_takeOnce 44 = .ok (.invokevirtual 89, 3) := by decide +kernel
theorem dX6_takeOnce_47 : decode cX6_takeOnce 47 = .ok (.ireturn, 1) := by decide +kernel
theorem dX6_takeOnce_48 : decode cX6_takeOnce 48 = .ok (.aload_n 0, 1) := by decide +kernel
theorem dX6_takeOnce_49 : decode cX6_takeOnce 49 = .ok (.dup, 1) := by decide +kernel
theorem dX6_takeOnce_50 : decode cX6_takeOnce 50 = .ok (.getfield 45, 3) := by decide +kernel
theorem dX6_takeOnce_53 : decode cX6_takeOnce 53 = .ok (.iload_n 1, 1) := by decide +kernel
theorem dX6_takeOnce_54 : decode cX6_takeOnce 54 = .ok (.ior, 1) := by decide +kernel
theorem dX6_takeOnce_55 : decode cX6_takeOnce 55 = .ok (.putfield 45, 3) := by decide +kernel
theorem dX6_takeOnce_58 : decode cX6_takeOnce 58 = .ok (.aload_n 0, 1) := by decide +kernel
theorem dX6_takeOnce_59 : decode cX6_takeOnce 59 = .ok (.getfield 20, 3) := by decide +kernel
theorem dX6_takeOnce_62 : decode cX6_takeOnce 62 = .ok (.invokevirtual 115, 3) := by decide +kernel
theorem dX6_takeOnce_65 : decode cX6_takeOnce 65 = .ok (.iconst 1, 1) := by decide +kernel
theorem dX6_takeOnce_66 : decode cX6_takeOnce 66 = .ok (.ireturn, 1) := by decide +kernel
theorem dX6_takeNamed_0 : decode cX6_takeNamed 0 = .ok (.aload_n 0, 1) := by decide +kernel
theorem dX6_takeNamed_1 : decode cX6_takeNamed 1 = .ok (.getfield 33, 3) := by decide +kernel
theorem dX6_takeNamed_4 : decode cX6_takeNamed 4 = .ok (.getfield 144, 3) := by decide +kernel
theorem dX6_takeNamed_7 : decode cX6_takeNamed 7 = .ok (.iload_n 1, 1) := by decide +kernel
theorem dX6_takeNamed_8 : decode cX6_takeNamed 8 = .ok (.iaload, 1) := by decide +kernel
theorem dX6_takeNamed_9 : decode cX6_takeNamed 9 = .ok (.getstatic 168, 3) := by decide +kernel
theorem dX6_takeNamed_12 : decode cX6_takeNamed 12 = .ok (.iload_n 1, 1) := by decide +kernel
theorem dX6_takeNamed_13 : decode cX6_takeNamed 13 = .ok (.iaload, 1) := by decide +kernel
theorem dX6_takeNamed_14 : decode cX6_takeNamed 14 = .ok (.if_icmp .lt 9, 3) := by decide +kernel
theorem dX6_takeNamed_17 : decode cX6_takeNamed 17 = .ok (.aload_n 0, 1) := by decide +kernel
theorem dX6_takeNamed_18 : decode cX6_takeNamed 18 = .ok (.iconst 2, 1) := by decide +kernel
theorem dX6_takeNamed_19 : decode cX6_takeNamed 19 = .ok (.invokevirtual 89, 3) := by decide +kernel
theorem dX6_takeNamed_22 : decode cX6_takeNamed 22 = .ok (.ireturn, 1) := by decide +kernel
theorem dX6_takeNamed_23 : decode cX6_takeNamed 23 = .ok (.aload_n 0, 1) := by decide +kernel
theorem dX6_takeNamed_24 : decode cX6_takeNamed 24 = .ok (.getfield 20, 3) := by decide +kernel
theorem dX6_takeNamed_27 : decode cX6_takeNamed 27 = .ok (.invokevirtual 115, 3) := by decide +kernel
theorem dX6_takeNamed_30 : decode cX6_takeNamed 30 = .ok (.aload_n 0, 1) := by decide +kernel
theorem dX6_takeNamed_31 : decode cX6_takeNamed 31 = .ok (.getfield 20, 3) := by decide +kernel
theorem dX6_takeNamed_34 : decode cX6_takeNamed 34 = .ok (.getfield 56, 3) := by decide +kernel
theorem dX6_takeNamed_37 : decode cX6_takeNamed 37 = .ok (.bipush 39, 2) := by decide +kernel
theorem dX6_takeNamed_39 : decode cX6_takeNamed 39 = .ok (.if_icmp .eq 9, 3) := by decide +kernel
theorem dX6_takeNamed_42 : decode cX6_takeNamed 42 = .ok (.aload_n 0, 1) := by decide +kernel
theorem dX6_takeNamed_43 : decode cX6_takeNamed 43 = .ok (.iconst 1, 1) := by decide +kernel
theorem dX6_takeNamed_44 : decode cX6_takeNamed 44 = .ok (.invokevirtual 89, 3) := by decide +kernel
theorem dX6_takeNamed_47 : decode cX6_takeNamed 47 = .ok (.ireturn, 1) := by decide +kernel
theorem dX6_takeNamed_48 : decode cX6_takeNamed 48 = .ok (.aload_n 0, 1) := by decide +kernel
theorem dX6_takeNamed_49 : decode cX6_takeNamed 49 = .ok (.getfield 33, 3) := by decide +kernel
theorem dX6_takeNamed_52 : decode cX6_takeNamed 52 = .ok (.iload_n 1, 1) := by decide +kernel
theorem dX6_takeNamed_53 : decode cX6_takeNamed 53 = .ok (.aload_n 0, 1) := by decide +kernel
theorem dX6_takeNamed_54 : decode cX6_takeNamed 54 = .ok (.getfield 20, 3) := by decide +kernel
theorem dX6_takeNamed_57 : decode cX6_takeNamed 57 = .ok (.getfield 171, 3) := by decide +kernel
theorem dX6_takeNamed_60 : decode cX6_takeNamed 60 = .ok (.invokevirtual 174, 3) := by decide +kernel
theorem dX6_takeNamed_63 : decode cX6_takeNamed 63 = .ok (.iconst (-1), 1) := by decide +kernel
theorem dX6_takeNamed_64 : decode cX6_takeNamed 64 = .ok (.if_icmp .eq 9, 3) := by decide +kernel
theorem dX6_takeNamed_67 : decode cX6_takeNamed 67 = .ok (.aload_n 0, 1) := by decide +kernel
theorem dX6_takeNamed_68 : decode cX6_takeNamed 68 = .ok (.iconst 3, 1) := by decide +kernel
theorem dX6_takeNamed_69 : decode cX6_takeNamed 69 = .ok (.invokevirtual 89, 3) := by decide +kernel
theorem dX6_takeNamed_72 : decode cX6_takeNamed 72 = .ok (.ireturn, 1) := by decide +kernel
theorem dX6_takeNamed_73 : decode cX6_takeNamed 73 = .ok (.aload_n 0, 1) := by decide +kernel
theorem dX6_takeNamed_74 : decode cX6_takeNamed 74 = .ok (.getfield 33, 3) := by decide +kernel
theorem dX6_takeNamed_77 : decode cX6_takeNamed 77 = .ok (.iload_n 1, 1) := by decide +kernel
theorem dX6_takeNamed_78 : decode cX6_takeNamed 78 = .ok (.aload_n 0, 1) := by decide +kernel
theorem dX6_takeNamed_79 : decode cX6_takeNamed 79 = .ok (.getfield 20, 3) := by decide +kernel
theorem dX6_takeNamed_82 : decode cX6_takeNamed 82 = .ok (.getfield 171, 3) := by decide +kernel
theorem dX6_takeNamed_85 : decode cX6_takeNamed 85 = .ok (.invokevirtual 177, 3) := by decide +kernel
theorem dX6_takeNamed_88 : decode cX6_takeNamed 88 = .ok (.aload_n 0, 1) := by decide +kernel
theorem dX6_takeNamed_89 : decode cX6_takeNamed 89 = .ok (.getfield 20, 3) := by decide +kernel
theorem dX6_takeNamed_92 : decode cX6_takeNamed 92 = .ok (.invokevirtual 115, 3) := by decide +kernel
theorem dX6_takeNamed_95 : decode cX6_takeNamed 95 = .ok (.iconst 1, 1) := by decide +kernel
theorem dX6_takeNamed_96 : decode cX6_takeNamed 96 = .ok (.ireturn, 1) := by decide +kernel
theorem dX6_takeNumber_0 : decode cX6_takeNumber 0 = .ok (.aload_n 0, 1) := by decide +kernel
theorem dX6_takeNumber_1 : decode cX6_takeNumber 1 = .ok (.getfield 20, 3) := by decide +kernel
theorem dX6_takeNumber_4 : decode cX6_takeNumber 4 = .ok (.getfield 56, 3) := by decide +kernel
theorem dX6_takeNumber_7 : decode cX6_takeNumber 7 = .ok (.bipush 38, 2) := by decide +kernel
theorem dX6_takeNumber_9 : decode cX6_takeNumber 9 = .ok (.if_icmp .eq 11, 3) := by decide +kernel
theorem dX6_takeNumber_12 : decode cX6_takeNumber 12 = .ok (.aload_n 0, 1) := by decide +kernel
theorem dX6_takeNumber_13 : decode cX6_takeNumber 13 = .ok (.iconst 1, 1) := by decide +kernel
theorem dX6_takeNumber_14 : decode cX6_takeNumber 14 = .ok (.invokevirtual 89, 3) := by decide +kernel
theorem dX6_takeNumber_17 : decode cX6_takeNumber 17 = .ok (.pop, 1) := by decide +kernel
theorem dX6_takeNumber_18 : decode cX6_takeNumber 18 = .ok (.iconst (-1), 1) := by decide +kernel
theorem dX6_takeNumber_19 : decode cX6_takeNumber 19 = .ok (.ireturn, 1) := by decide +kernel
theorem dX6_takeNumber_20 : decode cX6_takeNumber 20 = .ok (.aload_n 0, 1) := by decide +kernel
theorem dX6_takeNumber_21 : decode cX6_takeNumber 21 = .ok (.getfield 20, 3) := by decide +kernel
theorem dX6_takeNumber_24 : decode cX6_takeNumber 24 = .ok (.getfield 180, 3) := by decide +kernel
theorem dX6_takeNumber_27 : decode cX6_takeNumber 27 = .ok (.istore_n 3, 1) := by decide +kernel
theorem dX6_takeNumber_28 : decode cX6_takeNumber 28 = .ok (.iload_n 3, 1) := by decide +kernel
theorem dX6_takeNumber_29 : decode cX6_takeNumber 29 = .ok (.iload_n 1, 1) := by decide +kernel
theorem dX6_takeNumber_30 : decode cX6_takeNumber 30 = .ok (.if_icmp .lt 8, 3) := by decide +kernel
theorem dX6_takeNumber_33 : decode cX6_takeNumber 33 = .ok (.iload_n 3, 1) := by decide +kernel
theorem dX6_takeNumber_34 : decode cX6_takeNumber 34 = .ok (.iload_n 2, 1) := by decide +kernel
theorem dX6_takeNumber_35 : decode cX6_takeNumber 35 = .ok (.if_icmp .le 11, 3) := by decide +kernel
theorem dX6_takeNumber_38 : decode cX6_takeNumber 38 = .ok (.aload_n 0, 1) := by decide +kernel
theorem dX6_takeNumber_39 : decode cX6_takeNumber 39 = .ok (.iconst 2, 1) := by decide +kernel
theorem dX6_takeNumber_40 : decode cX6_takeNumber 40 = .ok (.invokevirtual 89, 3) := by decide +kernel
theorem dX6_takeNumber_43 : decode cX6_takeNumber 43 = .ok (.pop, 1) := by decide +kernel
theorem dX6_takeNumber_44 : decode cX6_takeNumber 44 = .ok (.iconst (-1), 1) := by decide +kernel
theorem dX6_takeNumber_45 : decode cX6_takeNumber 45 = .ok (.ireturn, 1) := by decide +kernel
theorem dX6_takeNumber_46 : decode cX6_takeNumber 46 = .ok (.aload_n 0, 1) := by decide +kernel
theorem dX6_takeNumber_47 : decode cX6_takeNumber 47 = .ok (.getfield 20, 3) := by decide +kernel
theorem dX6_takeNumber_50 : decode cX6_takeNumber 50 = .ok (.invokevirtual 115, 3) := by decide +kernel
theorem dX6_takeNumber_53 : decode cX6_takeNumber 53 = .ok (.iload_n 3, 1) := by decide +kernel
theorem dX6_takeNumber_54 : decode cX6_takeNumber 54 = .ok (.ireturn, 1) := by decide +kernel
theorem dX6_fail_0 : decode cX6_fail 0 = .ok (.aload_n 0, 1) := by decide +kernel
theorem dX6_fail_1 : decode cX6_fail 1 = .ok (.iload_n 1, 1) := by decide +kernel
theorem dX6_fail_2 : decode cX6_fail 2 = .ok (.aload_n 0, 1) := by decide +kernel
theorem dX6_fail_3 : decode cX6_fail 3 = .ok (.getfield 20, 3) := by decide +kernel
theorem dX6_fail_6 : decode cX6_fail 6 = .ok (.getfield 128, 3) := by decide +kernel
theorem dX6_fail_9 : decode cX6_fail 9 = .ok (.invokevirtual 138, 3) := by decide +kernel
theorem dX6_fail_12 : decode cX6_fail 12 = .ok (.ireturn, 1) := by decide +kernel
theorem dX6_failAt_0 : decode cX6_failAt 0 = .ok (.aload_n 0, 1) := by decide +kernel
theorem dX6_failAt_1 : decode cX6_failAt 1 = .ok (.iload_n 1, 1) := by decide +kernel
theorem dX6_failAt_2 : decode cX6_failAt 2 = .ok (.putfield 42, 3) := by decide +kernel
theorem dX6_failAt_5 : decode cX6_failAt 5 = .ok (.aload_n 0, 1) := by decide +kernel
theorem dX6_failAt_6 : decode cX6_failAt 6 = .ok (.iload_n 2, 1) := by decide +kernel
theorem dX6_failAt_7 : decode cX6_failAt 7 = .ok (.putfield 9, 3) := by decide +kernel
theorem dX6_failAt_10 : decode cX6_failAt 10 = .ok (.iconst 0, 1) := by decide +kernel
theorem dX6_failAt_11 : decode cX6_failAt 11 = .ok (.ireturn, 1) := by decide +kernel
theorem dX7_init_0 : decode cX7_init 0 = .ok (.aload_n 0, 1) := by decide +kernel
theorem dX7_init_1 : decode cX7_init 1 = .ok (.invokespecial 3, 3) := by decide +kernel
theorem dX7_init_4 : decode cX7_init 4 = .ok (.aload_n 0, 1) := by decide +kernel
theorem dX7_init_5 : decode cX7_init 5 = .ok (.iconst 4, 1) := by decide +kernel
theorem dX7_init_6 : decode cX7_init 6 = .ok (.newarray .int, 2) := by decide +kernel
theorem dX7_init_8 : decode cX7_init 8 = .ok (.putfield 9, 3) := by decide +kernel
theorem dX7_init_11 : decode cX7_init 11 = .ok (.aload_n 0, 1) := by decide +kernel
theorem dX7_init_12 : decode cX7_init 12 = .ok (.iconst 4, 1) := by decide +kernel
theorem dX7_init_13 : decode cX7_init 13 = .ok (.bipush 6, 2) := by decide +kernel
theorem dX7_init_15 : decode cX7_init 15 = .ok (.multianewarray 15 2, 4) := by decide +kernel
theorem dX7_init_19 : decode cX7_init 19 = .ok (.putfield 17, 3) := by decide +kernel
theorem dX7_init_22 : decode cX7_init 22 = .ok (.aload_n 0, 1) := by decide +kernel
theorem dX7_init_23 : decode cX7_init 23 = .ok (.new 20, 3) := by decide +kernel
theorem dX7_init_26 : decode cX7_init 26 = .ok (.dup, 1) := by decide +kernel
theorem dX7_init_27 : decode cX7_init 27 = .ok (.invokespecial 22, 3) := by decide +kernel
theorem dX7_init_30 : decode cX7_init 30 = .ok (.putfield 23, 3) := by decide +kernel
theorem dX7_init_33 : decode cX7_init 33 = .ok (.aload_n 0, 1) := by decide +kernel
theorem dX7_init_34 : decode cX7_init 34 = .ok (.new 27, 3) := by decide +kernel
theorem dX7_init_37 : decode cX7_init 37 = .ok (.dup, 1) := by decide +kernel
theorem dX7_init_38 : decode cX7_init 38 = .ok (.invokespecial 29, 3) := by decide +kernel
theorem dX7_init_41 : decode cX7_init 41 = .ok (.putfield 30, 3) := by decide +kernel
theorem dX7_init_44 : decode cX7_init 44 = .ok (.aload_n 0, 1) := by decide +kernel
theorem dX7_init_45 : decode cX7_init 45 = .ok (.iconst 4, 1) := by decide +kernel
theorem dX7_init_46 : decode cX7_init 46 = .ok (.newarray .int, 2) := by decide +kernel
theorem dX7_init_48 : decode cX7_init 48 = .ok (.putfield 34, 3) := by decide +kernel
theorem dX7_init_51 : decode cX7_init 51 = .ok (.aload_n 0, 1) := by decide +kernel
theorem dX7_init_52 : decode cX7_init 52 = .ok (.iconst 4, 1) := by decide +kernel
theorem dX7_init_53 : decode cX7_init 53 = .ok (.newarray .int, 2) := by decide +kernel
theorem dX7_init_55 : decode cX7_init 55 = .ok (.putfield 37, 3) := by decide +kernel
theorem dX7_init_58 : decode cX7_init 58 = .ok (.aload_n 0, 1) := by decide +kernel
theorem dX7_init_59 : decode cX7_init 59 = .ok (.new 40, 3) := by decide +kernel
theorem dX7_init_62 : decode cX7_init 62 = .ok (.dup, 1) := by decide +kernel
theorem dX7_init_63 : decode cX7_init 63 = .ok (.invokespecial 42, 3) := by decide +kernel
theorem dX7_init_66 : decode cX7_init 66 = .ok (.putfield 43, 3) := by decide +kernel
theorem dX7_init_69 : decode cX7_init 69 = .ok (.aload_n 0, 1) := by decide +kernel
theorem dX7_init_70 : decode cX7_init 70 = .ok (.new 40, 3) := by decide +kernel
theorem dX7_init_73 : decode cX7_init 73 = .ok (.dup, 1) := by decide +kernel
theorem dX7_init_74 : decode cX7_init 74 = .ok (.invokespecial 42, 3) := by decide +kernel
theorem dX7_init_77 : decode cX7_init 77 = .ok (.putfield 47, 3) := by decide +kernel
theorem dX7_init_80 : decode cX7_init 80 = .ok (.aload_n 0, 1) := by decide +kernel
theorem dX7_init_81 : decode cX7_init 81 = .ok (.iconst 3, 1) := by decide +kernel
theorem dX7_init_82 : decode cX7_init 82 = .ok (.anewarray 40, 3) := by decide +kernel
theorem dX7_init_85 : decode cX7_init 85 = .ok (.dup, 1) := by decide +kernel
theorem dX7_init_86 : decode cX7_init 86 = .ok (.iconst 0, 1) := by decide +kernel
theorem dX7_init_87 : decode cX7_init 87 = .ok (.new 40, 3) := by decide +kernel
theorem dX7_init_90 : decode cX7_init 90 = .ok (.dup, 1) := by decide +kernel
theorem dX7_init_91 : decode cX7_init 91 = .ok (.invokespecial 42, 3) := by decide +kernel
theorem dX7_init_94 : decode cX7_init 94 = .ok (.aastore, 1) := by decide +kernel
theorem dX7_init_95 : decode cX7_init 95 = .ok (.dup, 1) := by decide +kernel
theorem dX7_init_96 : decode cX7_init 96 = .ok (.iconst 1, 1) := by decide +kernel
theorem dX7_init_97 : decode cX7_init 97 = .ok (.new 40, 3) := by decide +kernel
theorem dX7_init_100 : decode cX7_init 100 = .ok (.dup, 1) := by decide +kernel
theorem dX7_init_101 : decode cX7_init 101 = .ok (.invokespecial 42, 3) := by decide +kernel
theorem dX7_init_104 : decode cX7_init 104 = .ok (.aastore, 1) := by decide +kernel
theorem dX7_init_105 : decode cX7_init 105 = .ok (.dup, 1) := by decide +kernel
theorem dX7_init_106 : decode cX7_init 106 = .ok (.iconst 2, 1) := by decide +kernel
theorem dX7_init_107 : decode cX7_init 107 = .ok (.new 40, 3) := by decide +kernel
theorem dX7_init_110 : decode cX7_init 110 = .ok (.dup, 1) := by decide +kernel
theorem dX7_init_111 : decode cX7_init 111 = .ok (.invokespecial 42, 3) := by decide +kernel
theorem dX7_init_114 : decode cX7_init 114 = .ok (.aastore, 1) := by decide +kernel
theorem dX7_init_115 : decode cX7_init 115 = .ok (.putfield 50, 3) := by decide +kernel
theorem dX7_init_118 : decode cX7_init 118 = .ok (.aload_n 0, 1) := by decide +kernel
theorem dX7_init_119 : decode cX7_init 119 = .ok (.invokevirtual 54, 3) := by decide +kernel
theorem dX7_init_122 : decode cX7_init 122 = .ok (.return_, 1) := by decide +kernel
theorem dX7_clear_0 : decode cX7_clear 0 = .ok (.aload_n 0, 1) := by decide +kernel
theorem dX7_clear_1 : decode cX7_clear 1 = .ok (.bipush 8, 2) := by decide +kernel
theorem dX7_clear_3 : decode cX7_clear 3 = .ok (.putfield 57, 3) := by decide +kernel
theorem dX7_clear_6 : decode cX7_clear 6 = .ok (.aload_n 0, 1) := by decide +kernel
theorem dX7_clear_7 : decode cX7_clear 7 = .ok (.iconst 4, 1) := by decide +kernel
theorem dX7_clear_8 : decode cX7_clear 8 = .ok (.putfield 61, 3) := by decide +kernel
theorem dX7_clear_11 : decode cX7_clear 11 = .ok (.aload_n 0, 1) := by decide +kernel
theorem dX7_clear_12 : decode cX7_clear 12 = .ok (.iconst 4, 1) := by decide +kernel
theorem dX7_clear_13 : decode cX7_clear 13 = .ok (.putfield 64, 3) := by decide +kernel
theorem dX7_clear_16 : decode cX7_clear 16 = .ok (.aload_n 0, 1) := by decide +kernel
theorem dX7_clear_17 : decode cX7_clear 17 = .ok (.iconst 5, 1) := by decide +kernel
theorem dX7_clear_18 : decode cX7_clear 18 = .ok (.putfield 67, 3) := by decide +kernel
theorem dX7_clear_21 : decode cX7_clear 21 = .ok (.aload_n 0, 1) := by decide +kernel
theorem dX7_clear_22 : decode cX7_clear 22 = .ok (.iconst 0, 1) := by decide +kernel
theorem dX7_clear_23 : decode cX7_clear 23 = .ok (.putfield 70, 3) := by decide +kernel
theorem dX7_clear_26 : decode cX7_clear 26 = .ok (.aload_n 0, 1) := by decide +kernel
theorem dX7_clear_27 : decode cX7_clear 27 = .ok (.iconst 0, 1) := by decide +kernel
theorem dX7_clear_28 : decode cX7_clear 28 = .ok (.putfield 73, 3) := by decide +kernel
theorem dX7_clear_31 : decode cX7_clear 31 = .ok (.aload_n 0, 1) := by decide +kernel
theorem dX7_clear_32 : decode cX7_clear 32 = .ok (.iconst 0, 1) := by decide +kernel
theorem dX7_clear_33 : decode cX7_clear 33 = .ok (.putfield 76, 3) := by decide +kernel
theorem dX7_clear_36 : decode cX7_clear 36 = .ok (.aload_n 0, 1) := by decide +kernel
theorem dX7_clear_37 : decode cX7_clear 37 = .ok (.iconst 0, 1) := by decide +kernel
theorem dX7_clear_38 : decode cX7_clear 38 = .ok (.putfield 79, 3) := by decide +kernel
theorem dX7_clear_41 : decode cX7_clear 41 = .ok (.aload_n 0, 1) := by decide +kernel
theorem dX7_clear_42 : decode cX7_clear 42 = .ok (.iconst 0, 1) := by decide +kernel
theorem dX7_clear_43 : decode cX7_clear 43 = .ok (.putfield 82, 3) := by decide +kernel
theorem dX7_clear_46 : decode cX7_clear 46 = .ok (.aload_n 0, 1) := by decide +kernel
theorem dX7_clear_47 : decode cX7_clear 47 = .ok (.getfield 9, 3) := by decide +kernel
theorem dX7_clear_50 : decode cX7_clear 50 = .ok (.iconst 0, 1) := by decide +kernel
theorem dX7_clear_51 : decode cX7_clear 51 = .ok (.invokestatic 85, 3) := by decide +kernel
theorem dX7_clear_54 : decode cX7_clear 54 = .ok (.aload_n 0, 1) := by decide +kernel
theorem dX7_clear_55 : decode cX7_clear 55 = .ok (.getfield 23, 3) := by decide +kernel
theorem dX7_clear_58 : decode cX7_clear 58 = .ok (.iconst 0, 1) := by decide +kernel
theorem dX7_clear_59 : decode cX7_clear 59 = .ok (.putfield 91, 3) := by decide +kernel
theorem dX7_clear_62 : decode cX7_clear 62 = .ok (.aload_n 0, 1) := by decide +kernel
theorem dX7_clear_63 : decode cX7_clear 63 = .ok (.getfield 30, 3) := by decide +kernel
theorem dX7_clear_66 : decode cX7_clear 66 = .ok (.iconst 0, 1) := by decide +kernel
theorem dX7_clear_67 : decode cX7_clear 67 = .ok (.putfield 94, 3) := by decide +kernel
theorem dX7_clear_70 : decode cX7_clear 70 = .ok (.aload_n 0, 1) := by decide +kernel
theorem dX7_clear_71 : decode cX7_clear 71 = .ok (.getfield 43, 3) := by decide +kernel
theorem dX7_clear_74 : decode cX7_clear 74 = .ok (.iconst 0, 1) := by decide +kernel
theorem dX7_clear_75 : decode cX7_clear 75 = .ok (.putfield 95, 3) := by decide +kernel
theorem dX7_clear_78 : decode cX7_clear 78 = .ok (.aload_n 0, 1) := by decide +kernel
theorem dX7_clear_79 : decode cX7_clear 79 = .ok (.getfield 47, 3) := by decide +kernel
theorem dX7_clear_82 : decode cX7_clear 82 = .ok (.iconst 0, 1) := by decide +kernel
theorem dX7_clear_83 : decode cX7_clear 83 = .ok (.putfield 95, 3) := by decide +kernel
theorem dX7_clear_86 : decode cX7_clear 86 = .ok (.iconst 0, 1) := by decide +kernel
theorem dX7_clear_87 : decode cX7_clear 87 = .ok (.istore_n 1, 1) := by decide +kernel
theorem dX7_clear_88 : decode cX7_clear 88 = .ok (.iload_n 1, 1) := by decide +kernel
theorem dX7_clear_89 : decode cX7_clear 89 = .ok (.iconst 3, 1) := by decide +kernel
theorem dX7_clear_90 : decode cX7_clear 90 = .ok (.if_icmp .ge 19, 3) := by decide +kernel
theorem dX7_clear_93 : decode cX7_clear 93 = .ok (.aload_n 0, 1) := by decide +kernel
theorem dX7_clear_94 : decode cX7_clear 94 = .ok (.getfield 50, 3) := by decide +kernel
theorem dX7_clear_97 : decode cX7_clear 97 = .ok (.iload_n 1, 1) := by decide +kernel
theorem dX7_clear_98 : decode cX7_clear 98 = .ok (.aaload, 1) := by decide +kernel
theorem dX7_clear_99 : decode cX7_clear 99 = .ok (.iconst 0, 1) := by decide +kernel
theorem dX7_clear_100 : decode cX7_clear 100 = .ok (.putfield 95, 3) := by decide +kernel
theorem dX7_clear_103 : decode cX7_clear 103 = .ok (.iinc 1 1, 3) := by decide +kernel
theorem dX7_clear_106 : decode cX7_clear 106 = .ok (.goto (-18), 3) := by decide +kernel
theorem dX7_clear_109 : decode cX7_clear 109 = .ok (.return_, 1) := by decide +kernel
theorem dX7_find_0 : decode cX7_find 0 = .ok (.iconst 0, 1) := by decide +kernel
theorem dX7_find_1 : decode cX7_find 1 = .ok (.istore_n 3, 1) := by decide +kernel
theorem dX7_find_2 : decode cX7_find 2 = .ok (.iload_n 3, 1) := by decide +kernel
theorem dX7_find_3 : decode cX7_find 3 = .ok (.aload_n 0, 1) := by decide +kernel
theorem dX7_find_4 : decode cX7_find 4 = .ok (.getfield 9, 3) := by decide +kernel
theorem dX7_find_7 : decode cX7_find 7 = .ok (.iload_n 1, 1) := by decide +kernel
theorem dX7_find_8 : decode cX7_find 8 = .ok (.iaload, 1) := by decide +kernel
theorem dX7_find_9 : decode cX7_find 9 = .ok (.if_icmp .ge 23, 3) := by decide +kernel
theorem dX7_find_12 : decode cX7_find 12 = .ok (.aload_n 0, 1) := by decide +kernel
theorem dX7_find_13 : decode cX7_find 13 = .ok (.getfield 17, 3) := by decide +kernel
theorem dX7_find_16 : decode cX7_find 16 = .ok (.iload_n 1, 1) := by decide +kernel
theorem dX7_find_17 : decode cX7_find 17 = .ok (.aaload, 1) := by decide +kernel
theorem dX7_find_18 : decode cX7_find 18 = .ok (.iload_n 3, 1) := by decide +kernel
theorem dX7_find_19 : decode cX7_find 19 = .ok (.iaload, 1) := by decide +kernel
theorem dX7_find_20 : decode cX7_find 20 = .ok (.iload_n 2, 1) := by decide +kernel
theorem dX7_find_21 : decode cX7_find 21 = .ok (.if_icmp .ne 5, 3) := by decide +kernel
theorem dX7_find_24 : decode cX7_find 24 = .ok (.iload_n 3, 1) := by decide +kernel
theorem dX7_find_25 : decode cX7_find 25 = .ok (.ireturn, 1) := by decide +kernel
theorem dX7_find_26 : decode cX7_find 26 = .ok (.iinc 3 1, 3) := by decide +kernel
theorem dX7_find_29 : decode cX7_find 29 = .ok (.goto (-27), 3) := by decide +kernel
theorem dX7_find_32 : decode cX7_find 32 = .ok (.iconst (-1), 1) := by decide +kernel
theorem dX7_find_33 : decode cX7_find 33 = .ok (.ireturn, 1) := by decide +kernel
theorem dX7_addName_0 : decode cX7_addName 0 = .ok (.aload_n 0, 1) := by decide +kernel
theorem dX7_addName_1 : decode cX7_addName 1 = .ok (.getfield 9, 3) := by decide +kernel
theorem dX7_addName_4 : decode cX7_addName 4 = .ok (.iload_n 1, 1) := by decide +kernel
theorem dX7_addName_5 : decode cX7_addName 5 = .ok (.iaload, 1) := by decide +kernel
theorem dX7_addName_6 : decode cX7_addName 6 = .ok (.getstatic 96, 3) := by decide +kernel
theorem dX7_addName_9 : decode cX7_addName 9 = .ok (.iload_n 1, 1) := by decide +kernel
theorem dX7_addName_10 : decode cX7_addName 10 = .ok (.iaload, 1) := by decide +kernel
theorem dX7_addName_11 : decode cX7_addName 11 = .ok (.if_icmp .ge 27, 3) := by decide +kernel
theorem dX7_addName_14 : decode cX7_addName 14 = .ok (.aload_n 0, 1) := by decide +kernel
theorem dX7_addName_15 : decode cX7_addName 15 = .ok (.getfield 17, 3) := by decide +kernel
theorem dX7_addName_18 : decode cX7_addName 18 = .ok (.iload_n 1, 1) := by decide +kernel
theorem dX7_addName_19 : decode cX7_addName 19 = .ok (.aaload, 1) := by decide +kernel
theorem dX7_addName_20 : decode cX7_addName 20 = .ok (.aload_n 0, 1) := by decide +kernel
theorem dX7_addName_21 : decode cX7_addName 21 = .ok (.getfield 9, 3) := by decide +kernel
theorem dX7_addName_24 : decode cX7_addName 24 = .ok (.iload_n 1, 1) := by decide +kernel
theorem dX7_addName_25 : decode cX7_addName 25 = .ok (.iaload, 1) := by decide +kernel
theorem dX7_addName_26 : decode cX7_addName 26 = .ok (.iload_n 2, 1) := by decide +kernel
theorem dX7_addName_27 : decode cX7_addName 27 = .ok (.iastore, 1) := by decide +kernel
theorem dX7_addName_28 : decode cX7_addName 28 = .ok (.aload_n 0, 1) := by decide +kernel
theorem dX7_addName_29 : decode cX7_addName 29 = .ok (.getfield 9, 3) := by decide +kernel
theorem dX7_addName_32 : decode cX7_addName 32 = .ok (.iload_n 1, 1) := by decide +kernel
theorem dX7_addName_33 : decode cX7_addName 33 = .ok (.dup2, 1) := by decide +kernel
theorem dX7_addName_34 : decode cX7_addName 34 = .ok (.iaload, 1) := by decide +kernel
theorem dX7_addName_35 : decode cX7_addName 35 = .ok (.iconst 1, 1) := by decide +kernel
theorem dX7_addName_36 : decode cX7_addName 36 = .ok (.iadd, 1) := by decide +kernel
theorem dX7_addName_37 : decode cX7_addName 37 = .ok (.iastore, 1) := by decide +kernel
theorem dX7_addName_38 : decode cX7_addName 38 = .ok (.return_, 1) := by decide +kernel
theorem dX7_setNumber_0 : decode cX7_setNumber 0 = .ok (.iload_n 1, 1) := by decide +kernel
theorem dX7_setNumber_1 : decode cX7_setNumber 1 = .ok (.tableswitch 75 1 7 #[43, 51, 59, 75, 75, 75, 67], 43) := by decide +kernel
theorem dX7_setNumber_44 : decode cX7_setNumber 44 = .ok (.aload_n 0, 1) := by decide +kernel
theorem dX7_setNumber_45 : decode cX7_setNumber 45 = .ok (.iload_n 2, 1) := by decide +kernel
theorem dX7_setNumber_46 : decode cX7_setNumber 46 = .ok (.putfield 67, 3) := by decide +kernel
theorem dX7_setNumber_49 : decode cX7_setNumber 49 = .ok (.goto 32, 3) := by decide +kernel
theorem dX7_setNumber_52 : decode cX7_setNumber 52 = .ok (.aload_n 0, 1) := by decide +kernel
theorem dX7_setNumber_53 : decode cX7_setNumber 53 = .ok (.iload_n 2, 1) := by decide +kernel
theorem dX7_setNumber_54 : decode cX7_setNumber 54 = .ok (.putfield 70, 3) := by decide +kernel
theorem dX7_setNumber_57 : decode cX7_setNumber 57 = .ok (.goto 24, 3) := by decide +kernel
theorem dX7_setNumber_60 : decode cX7_setNumber 60 = .ok (.aload_n 0, 1) := by decide +kernel
theorem dX7_setNumber_61 : decode cX7_setNumber 61 = .ok (.iload_n 2, 1) := by decide +kernel
theorem dX7_setNumber_62 : decode cX7_setNumber 62 = .ok (.putfield 73, 3) := by decide +kernel
theorem dX7_setNumber_65 : decode cX7_setNumber 65 = .ok (.goto 16, 3) := by decide +kernel
theorem dX7_setNumber_68 : decode cX7_setNumber 68 = .ok (.aload_n 0, 1) := by decide +kernel
theorem dX7_setNumber_69 : decode cX7_setNumber 69 = .ok (.iload_n 2, 1) := by decide +kernel
theorem dX7_setNumber_70 : decode cX7_setNumber 70 = .ok (.putfield 76, 3) := by decide +kernel
theorem dX7_setNumber_73 : decode cX7_setNumber 73 = .ok (.goto 8, 3) := by decide +kernel
theorem dX7_setNumber_76 : decode cX7_setNumber 76 = .ok (.aload_n 0, 1) := by decide +kernel
theorem dX7_setNumber_77 : decode cX7_setNumber 77 = .ok (.iload_n 2, 1) := by decide +kernel
theorem dX7_setNumber_78 : decode cX7_setNumber 78 = .ok (.putfield 79, 3) := by decide +kernel
theorem dX7_setNumber_81 : decode cX7_setNumber 81 = .ok (.return_, 1) := by decide +kernel
theorem dX8_init_0 : decode cX8_init 0 = .ok (.aload_n 0, 1) := by decide +kernel
theorem dX8_init_1 : decode cX8_init 1 = .ok (.invokespecial 3, 3) := by decide +kernel
theorem dX8_init_4 : decode cX8_init 4 = .ok (.aload_n 0, 1) := by decide +kernel
theorem dX8_init_5 : decode cX8_init 5 = .ok (.bipush 25, 2) := by decide +kernel
theorem dX8_init_7 : decode cX8_init 7 = .ok (.newarray .int, 2) := by decide +kernel
theorem dX8_init_9 : decode cX8_init 9 = .ok (.putfield 9, 3) := by decide +kernel
theorem dX8_init_12 : decode cX8_init 12 = .ok (.aload_n 0, 1) := by decide +kernel
theorem dX8_init_13 : decode cX8_init 13 = .ok (.aload_n 1, 1) := by decide +kernel
theorem dX8_init_14 : decode cX8_init 14 = .ok (.putfield 15, 3) := by decide +kernel
theorem dX8_init_17 : decode cX8_init 17 = .ok (.iconst 0, 1) := by decide +kernel
theorem dX8_init_18 : decode cX8_init 18 = .ok (.istore_n 2, 1) := by decide +kernel
theorem dX8_init_19 : decode cX8_init 19 = .ok (.iconst 0, 1) := by decide +kernel
theorem dX8_init_20 : decode cX8_init 20 = .ok (.istore_n 3, 1) := by decide +kernel
theorem dX8_init_21 : decode cX8_init 21 = .ok (.iconst 0, 1) := by decide +kernel
theorem dX8_init_22 : decode cX8_init 22 = .ok (.istore 4, 2) := by decide +kernel
theorem dX8_init_24 : decode cX8_init 24 = .ok (.iconst 0, 1) := by decide +kernel
theorem dX8_init_25 : decode cX8_init 25 = .ok (.istore 5, 2) := by decide +kernel
theorem dX8_init_27 : decode cX8_init 27 = .ok (.iload 5, 2) := by decide +kernel
theorem dX8_init_29 : decode cX8_init 29 = .ok (.ldc 19, 2) := by decide +kernel
theorem dX8_init_31 : decode cX8_init 31 = .ok (.invokevirtual 21, 3) := by decide +kernel
theorem dX8_init_34 : decode cX8_init 34 = .ok (.if_icmp .ge 62, 3) := by decide +kernel
theorem dX8_init_37 : decode cX8_init 37 = .ok (.iload_n 2, 1) := by decide +kernel
theorem dX8_init_38 : decode cX8_init 38 = .ok (.bipush 25, 2) := by decide +kernel
theorem dX8_init_40 : decode cX8_init 40 = .ok (.if_icmp .ge 56, 3) := by decide +kernel
theorem dX8_init_43 : decode cX8_init 43 = .ok (.ldc 19, 2) := by decide +kernel
theorem dX8_init_45 : decode cX8_init 45 = .ok (.iload 5, 2) := by decide +kernel
theorem dX8_init_47 : decode cX8_init 47 = .ok (.invokevirtual 27, 3) := by decide +kernel
theorem dX8_init_50 : decode cX8_init 50 = .ok (.istore 6, 2) := by decide +kernel
theorem dX8_init_52 : decode cX8_init 52 = .ok (.iload 6, 2) := by decide +kernel
theorem dX8_init_54 : decode cX8_init 54 = .ok (.bipush 32, 2) := by decide +kernel
theorem dX8_init_56 : decode cX8_init 56 = .ok (.if_icmp .ne 21, 3) := by decide +kernel
theorem dX8_init_59 : decode cX8_init 59 = .ok (.aload_n 0, 1) := by decide +kernel
theorem dX8_init_60 : decode cX8_init 60 = .ok (.getfield 9, 3) := by decide +kernel
theorem dX8_init_63 : decode cX8_init 63 = .ok (.iload_n 2, 1) := by decide +kernel
theorem dX8_init_64 : decode cX8_init 64 = .ok (.iload_n 3, 1) := by decide +kernel
theorem dX8_init_65 : decode cX8_init 65 = .ok (.iastore, 1) := by decide +kernel
theorem dX8_init_66 : decode cX8_init 66 = .ok (.iinc 2 1, 3) := by decide +kernel
theorem dX8_init_69 : decode cX8_init 69 = .ok (.iconst 0, 1) := by decide +kernel
theorem dX8_init_70 : decode cX8_init 70 = .ok (.istore_n 3, 1) := by decide +kernel
theorem dX8_init_71 : decode cX8_init 71 = .ok (.iconst 0, 1) := by decide +kernel
theorem dX8_init_72 : decode cX8_init 72 = .ok (.istore 4, 2) := by decide +kernel
theorem dX8_init_74 : decode cX8_init 74 = .ok (.goto 16, 3) := by decide +kernel
theorem dX8_init_77 : decode cX8_init 77 = .ok (.iload_n 3, 1) := by decide +kernel
theorem dX8_init_78 : decode cX8_init 78 = .ok (.iload 6, 2) := by decide +kernel
theorem dX8_init_80 : decode cX8_init 80 = .ok (.iload 4, 2) := by decide +kernel
theorem dX8_init_82 : decode cX8_init 82 = .ok (.invokestatic 31, 3) := by decide +kernel
theorem dX8_init_85 : decode cX8_init 85 = .ok (.ior, 1) := by decide +kernel
theorem dX8_init_86 : decode cX8_init 86 = .ok (.istore_n 3, 1) := by decide +kernel
theorem dX8_init_87 : decode cX8_init 87 = .ok (.iinc 4 1, 3) := by decide +kernel
theorem dX8_init_90 : decode cX8_init 90 = .ok (.iinc 5 1, 3) := by decide +kernel
theorem dX8_init_93 : decode cX8_init 93 = .ok (.goto (-66), 3) := by decide +kernel
theorem dX8_init_96 : decode cX8_init 96 = .ok (.return_, 1) := by decide +kernel
theorem dX8_letterBits_0 : decode cX8_letterBits 0 = .ok (.iload_n 1, 1) := by decide +kernel
theorem dX8_letterBits_1 : decode cX8_letterBits 1 = .ok (.bipush 6, 2) := by decide +kernel
theorem dX8_letterBits_3 : decode cX8_letterBits 3 = .ok (.if_icmp .ge 18, 3) := by decide +kernel
theorem dX8_letterBits_6 : decode cX8_letterBits 6 = .ok (.iload_n 0, 1) := by decide +kernel
theorem dX8_letterBits_7 : decode cX8_letterBits 7 = .ok (.bipush 97, 2) := by decide +kernel
theorem dX8_letterBits_9 : decode cX8_letterBits 9 = .ok (.isub, 1) := by decide +kernel
theorem dX8_letterBits_10 : decode cX8_letterBits 10 = .ok (.iconst 1, 1) := by decide +kernel
theorem dX8_letterBits_11 : decode cX8_letterBits 11 = .ok (.iadd, 1) := by decide +kernel
theorem dX8_letterBits_12 : decode cX8_letterBits 12 = .ok (.iconst 5, 1) := by decide +kernel
theorem dX8_letterBits_13 : decode cX8_letterBits 13 = .ok (.iconst 5, 1) := by decide +kernel
theorem dX8_letterBits_14 : decode cX8_letterBits 14 = .ok (.iload_n 1, 1) := by decide +kernel
theorem dX8_letterBits_15 : decode cX8_letterBits 15 = .ok (.isub, 1) := by decide +kernel
theorem dX8_letterBits_16 : decode cX8_letterBits 16 = .ok (.imul, 1) := by decide +kernel
theorem dX8_letterBits_17 : decode cX8_letterBits 17 = .ok (.ishl, 1) := by decide +kernel
theorem dX8_letterBits_18 : decode cX8_letterBits 18 = .ok (.goto 4, 3) := by decide +kernel
theorem dX8_letterBits_21 : decode cX8_letterBits 21 = .ok (.iconst 0, 1) := by decide +kernel
theorem dX8_letterBits_22 : decode cX8_letterBits 22 = .ok (.ireturn, 1) := by decide +kernel
theorem dX8_start_0 : decode cX8_start 0 = .ok (.aload_n 0, 1) := by decide +kernel
theorem dX8_start_1 : decode cX8_start 1 = .ok (.iload_n 1, 1) := by decide +kernel
theorem dX8_start_2 : decode cX8_start 2 = .ok (.aload_n 0, 1) := by decide +kernel
theorem dX8_start_3 : decode cX8_start 3 = .ok (.getfield 15, 3) := by decide +kernel
theorem dX8_start_6 : decode cX8_start 6 = .ok (.arraylength, 1) := by decide +kernel
theorem dX8_start_7 : decode cX8_start 7 = .ok (.invokestatic 35, 3) := by decide +kernel
theorem dX8_start_10 : decode cX8_start 10 = .ok (.putfield 40, 3) := by decide +kernel
theorem dX8_start_13 : decode cX8_start 13 = .ok (.aload_n 0, 1) := by decide +kernel
theorem dX8_start_14 : decode cX8_start 14 = .ok (.iconst 0, 1) := by decide +kernel
theorem dX8_start_15 : decode cX8_start 15 = .ok (.putfield 43, 3) := by decide +kernel
theorem dX8_start_18 : decode cX8_start 18 = .ok (.aload_n 0, 1) := by decide +kernel
theorem dX8_start_19 : decode cX8_start 19 = .ok (.invokevirtual 46, 3) := by decide +kernel
theorem dX8_start_22 : decode cX8_start 22 = .ok (.return_, 1) := by decide +kernel
theorem dX8_advance_0 : decode cX8_advance 0 = .ok (.aload_n 0, 1) := by decide +kernel
theorem dX8_advance_1 : decode cX8_advance 1 = .ok (.getfield 43, 3) := by decide +kernel
theorem dX8_advance_4 : decode cX8_advance 4 = .ok (.aload_n 0, 1) := by decide +kernel
theorem dX8_advance_5 : decode cX8_advance 5 = .ok (.getfield 40, 3) := by decide +kernel
theorem dX8_advance_8 : decode cX8_advance 8 = .ok (.if_icmp .ge 44, 3) := by decide +kernel
theorem dX8_advance_11 : decode cX8_advance 11 = .ok (.aload_n 0, 1) := by decide +kernel
theorem dX8_advance_12 : decode cX8_advance 12 = .ok (.getfield 15, 3) := by decide +kernel
theorem dX8_advance_15 : decode cX8_advance 15 = .ok (.aload_n 0, 1) := by decide +kernel
theorem dX8_advance_16 : decode cX8_advance 16 = .ok (.getfield 43, 3) := by decide +kernel
theorem dX8_advance_19 : decode cX8_advance 19 = .ok (.baload, 1) := by decide +kernel
theorem dX8_advance_20 : decode cX8_advance 20 = .ok (.bipush 10, 2) := by decide +kernel
theorem dX8_advance_22 : decode cX8_advance 22 = .ok (.if_icmp .eq 17, 3) := by decide +kernel
theorem dX8_advance_25 : decode cX8_advance 25 = .ok (.aload_n 0, 1) := by decide +kernel
theorem dX8_advance_26 : decode cX8_advance 26 = .ok (.getfield 15, 3) := by decide +kernel
theorem dX8_advance_29 : decode cX8_advance 29 = .ok (.aload_n 0, 1) := by decide +kernel
theorem dX8_advance_30 : decode cX8_advance 30 = .ok (.getfield 43, 3) := by decide +kernel
theorem dX8_advance_33 : decode cX8_advance 33 = .ok (.baload, 1) := by decide +kernel
theorem dX8_advance_34 : decode cX8_advance 34 = .ok (.bipush 32, 2) := by decide +kernel
theorem dX8_advance_36 : decode cX8_advance 36 = .ok (.if_icmp .ne 16, 3) := by decide +kernel
theorem dX8_advance_39 : decode cX8_advance 39 = .ok (.aload_n 0, 1) := by decide +kernel
theorem dX8_advance_40 : decode cX8_advance 40 = .ok (.dup, 1) := by decide +kernel
theorem dX8_advance_41 : decode cX8_advance 41 = .ok (.getfield 43, 3) := by decide +kernel
theorem dX8_advance_44 : decode cX8_advance 44 = .ok (.iconst 1, 1) := by decide +kernel
theorem dX8_advance_45 : decode cX8_advance 45 = .ok (.iadd, 1) := by decide +kernel
theorem dX8_advance_46 : decode cX8_advance 46 = .ok (.putfield 43, 3) := by decide +kernel
theorem dX8_advance_49 : decode cX8_advance 49 = .ok (.goto (-49), 3) := by decide +kernel
theorem dX8_advance_52 : decode cX8_advance 52 = .ok (.aload_n 0, 1) := by decide +kernel
theorem dX8_advance_53 : decode cX8_advance 53 = .ok (.aload_n 0, 1) := by decide +kernel
theorem dX8_advance_54 : decode cX8_advance 54 = .ok (.getfield 43, 3) := by decide +kernel
theorem dX8_advance_57 : decode cX8_advance 57 = .ok (.putfield 49, 3) := by decide +kernel
theorem dX8_advance_60 : decode cX8_advance 60 = .ok (.aload_n 0, 1) := by decide +kernel
theorem dX8_advance_61 : decode cX8_advance 61 = .ok (.aload_n 0, 1) := by decide +kernel
theorem dX8_advance_62 : decode cX8_advance 62 = .ok (.getfield 43, 3) := by decide +kernel
theorem dX8_advance_65 : decode cX8_advance 65 = .ok (.invokevirtual 52, 3) := by decide +kernel
theorem dX8_advance_68 : decode cX8_advance 68 = .ok (.istore_n 1, 1) := by decide +kernel
theorem dX8_advance_69 : decode cX8_advance 69 = .ok (.iload_n 1, 1) := by decide +kernel
theorem dX8_advance_70 : decode cX8_advance 70 = .ok (.iconst (-1), 1) := by decide +kernel
theorem dX8_advance_71 : decode cX8_advance 71 = .ok (.if_icmp .ne 12, 3) := by decide +kernel
theorem dX8_advance_74 : decode cX8_advance 74 = .ok (.aload_n 0, 1) := by decide +kernel
theorem dX8_advance_75 : decode cX8_advance 75 = .ok (.bipush 40, 2) := by decide +kernel
theorem dX8_advance_77 : decode cX8_advance 77 = .ok (.putfield 56, 3) := by decide +kernel
theorem dX8_advance_80 : decode cX8_advance 80 = .ok (.goto 36, 3) := by decide +kernel
theorem dX8_advance_83 : decode cX8_advance 83 = .ok (.iload_n 1, 1) := by decide +kernel
theorem dX8_advance_84 : decode cX8_advance 84 = .ok (.invokestatic 59, 3) := by decide +kernel
theorem dX8_advance_87 : decode cX8_advance 87 = .ok (.ifCond .eq 10, 3) := by decide +kernel
theorem dX8_advance_90 : decode cX8_advance 90 = .ok (.aload_n 0, 1) := by decide +kernel
theorem dX8_advance_91 : decode cX8_advance 91 = .ok (.invokevirtual 63, 3) := by decide +kernel
theorem dX8_advance_94 : decode cX8_advance 94 = .ok (.goto 22, 3) := by decide +kernel
theorem dX8_advance_97 : decode cX8_advance 97 = .ok (.iload_n 1, 1) := by decide +kernel
theorem dX8_advance_98 : decode cX8_advance 98 = .ok (.invokestatic 66, 3) := by decide +kernel
theorem dX8_advance_101 : decode cX8_advance 101 = .ok (.ifCond .eq 10, 3) := by decide +kernel
theorem dX8_advance_104 : decode cX8_advance 104 = .ok (.aload_n 0, 1) := by decide +kernel
theorem dX8_advance_105 : decode cX8_advance 105 = .ok (.invokevirtual 69, 3) := by decide +kernel
theorem dX8_advance_108 : decode cX8_advance 108 = .ok (.goto 8, 3) := by decide +kernel
theorem dX8_advance_111 : decode cX8_advance 111 = .ok (.aload_n 0, 1) := by decide +kernel
theorem dX8_advance_112 : decode cX8_advance 112 = .ok (.iload_n 1, 1) := by decide +kernel
theorem dX8_advance_113 : decode cX8_advance 113 = .ok (.invokevirtual 72, 3) := by decide +kernel
theorem dX8_advance_116 : decode cX8_advance 116 = .ok (.return_, 1) := by decide +kernel
theorem dX8_signAt_0 : decode cX8_signAt 0 = .ok (.iload_n 1, 1) := by decide +kernel
theorem dX8_signAt_1 : decode cX8_signAt 1 = .ok (.aload_n 0, 1) := by decide +kernel
theorem dX8_signAt_2 : decode cX8_signAt 2 = .ok (.getfield 40, 3) := by decide +kernel
theorem dX8_signAt_5 : decode cX8_signAt 5 = .ok (.if_icmp .ge 16, 3) := by decide +kernel
theorem dX8_signAt_8 : decode cX8_signAt 8 = .ok (.aload_n 0, 1) := by decide +kernel
theorem dX8_signAt_9 : decode cX8_signAt 9 = .ok (.getfield 15, 3) := by decide +kernel
theorem dX8_signAt_12 : decode cX8_signAt 12 = .ok (.iload_n 1, 1) := by decide +kernel
theorem dX8_signAt_13 : decode cX8_signAt 13 = .ok (.baload, 1) := by decide +kernel
theorem dX8_signAt_14 : decode cX8_signAt 14 = .ok (.sipush 255, 3) := by decide +kernel
theorem dX8_signAt_17 : decode cX8_signAt 17 = .ok (.iand, 1) := by decide +kernel
theorem dX8_signAt_18 : decode cX8_signAt 18 = .ok (.goto 4, 3) := by decide +kernel
theorem dX8_signAt_21 : decode cX8_signAt 21 = .ok (.iconst (-1), 1) := by decide +kernel
theorem dX8_signAt_22 : decode cX8_signAt 22 = .ok (.ireturn, 1) := by decide +kernel
theorem dX8_isLetter_0 : decode cX8_isLetter 0 = .ok (.iload_n 0, 1) := by decide +kernel
theorem dX8_isLetter_1 : decode cX8_isLetter 1 = .ok (.bipush 97, 2) := by decide +kernel
theorem dX8_isLetter_3 : decode cX8_isLetter 3 = .ok (.if_icmp .lt 13, 3) := by decide +kernel
theorem dX8_isLetter_6 : decode cX8_isLetter 6 = .ok (.iload_n 0, 1) := by decide +kernel
theorem dX8_isLetter_7 : decode cX8_isLetter 7 = .ok (.bipush 122, 2) := by decide +kernel
theorem dX8_isLetter_9 : decode cX8_isLetter 9 = .ok (.if_icmp .gt 7, 3) := by decide +kernel
theorem dX8_isLetter_12 : decode cX8_isLetter 12 = .ok (.iconst 1, 1) := by decide +kernel
theorem dX8_isLetter_13 : decode cX8_isLetter 13 = .ok (.goto 4, 3) := by decide +kernel
theorem dX8_isLetter_16 : decode cX8_isLetter 16 = .ok (.iconst 0, 1) := by decide +kernel
theorem dX8_isLetter_17 : decode cX8_isLetter 17 = .ok (.ireturn, 1) := by decide +kernel
theorem dX8_isDigit_0 : decode cX8_isDigit 0 = .ok (.iload_n 0, 1) := by decide +kernel
theorem dX8_isDigit_1 : decode cX8_isDigit 1 = .ok (.bipush 48, 2) := by decide +kernel
theorem dX8_isDigit_3 : decode cX8_isDigit 3 = .ok (.if_icmp .lt 13, 3) := by decide +kernel
theorem dX8_isDigit_6 : decode cX8_isDigit 6 = .ok (.iload_n 0, 1) := by decide +kernel
theorem dX8_isDigit_7 : decode cX8_isDigit 7 = .ok (.bipush 57, 2) := by decide +kernel
theorem dX8_isDigit_9 : decode cX8_isDigit 9 = .ok (.if_icmp .gt 7, 3) := by decide +kernel
theorem dX8_isDigit_12 : decode cX8_isDigit 12 = .ok (.iconst 1, 1) := by decide +kernel
theorem dX8_isDigit_13 : decode cX8_isDigit 13 = .ok (.goto 4, 3) := by decide +kernel
theorem dX8_isDigit_16 : decode cX8_isDigit 16 = .ok (.iconst 0, 1) := by decide +kernel
theorem dX8_isDigit_17 : decode cX8_isDigit 17 = .ok (.ireturn, 1) := by decide +kernel
theorem dX8_readWord_0 : decode cX8_readWord 0 = .ok (.aload_n 0, 1) := by decide +kernel
theorem dX8_readWord_1 : decode cX8_readWord 1 = .ok (.iconst 0, 1) := by decide +kernel
theorem dX8_readWord_2 : decode cX8_readWord 2 = .ok (.putfield 76, 3) := by decide +kernel
theorem dX8_readWord_5 : decode cX8_readWord 5 = .ok (.aload_n 0, 1) := by decide +kernel
theorem dX8_readWord_6 : decode cX8_readWord 6 = .ok (.getfield 43, 3) := by decide +kernel
theorem dX8_readWord_9 : decode cX8_readWord 9 = .ok (.aload_n 0, 1) := by decide +kernel
theorem dX8_readWord_10 : decode cX8_readWord 10 = .ok (.getfield 40, 3) := by decide +kernel
theorem dX8_readWord_13 : decode cX8_readWord 13 = .ok (.if_icmp .ge 61, 3) := by decide +kernel
theorem dX8_readWord_16 : decode cX8_readWord 16 = .ok (.aload_n 0, 1) := by decide +kernel
theorem dX8_readWord_17 : decode cX8_readWord 17 = .ok (.getfield 15, 3) := by decide +kernel
theorem dX8_readWord_20 : decode cX8_readWord 20 = .ok (.aload_n 0, 1) := by decide +kernel
theorem dX8_readWord_21 : decode cX8_readWord 21 = .ok (.getfield 43, 3) := by decide +kernel
theorem dX8_readWord_24 : decode cX8_readWord 24 = .ok (.baload, 1) := by decide +kernel
theorem dX8_readWord_25 : decode cX8_readWord 25 = .ok (.invokestatic 59, 3) := by decide +kernel
theorem dX8_readWord_28 : decode cX8_readWord 28 = .ok (.ifCond .eq 46, 3) := by decide +kernel
theorem dX8_readWord_31 : decode cX8_readWord 31 = .ok (.aload_n 0, 1) := by decide +kernel
theorem dX8_readWord_32 : decode cX8_readWord 32 = .ok (.dup, 1) := by decide +kernel
theorem dX8_readWord_33 : decode cX8_readWord 33 = .ok (.getfield 76, 3) := by decide +kernel
theorem dX8_readWord_36 : decode cX8_readWord 36 = .ok (.aload_n 0, 1) := by decide +kernel
theorem dX8_readWord_37 : decode cX8_readWord 37 = .ok (.getfield 15, 3) := by decide +kernel
theorem dX8_readWord_40 : decode cX8_readWord 40 = .ok (.aload_n 0, 1) := by decide +kernel
theorem dX8_readWord_41 : decode cX8_readWord 41 = .ok (.getfield 43, 3) := by decide +kernel
theorem dX8_readWord_44 : decode cX8_readWord 44 = .ok (.baload, 1) := by decide +kernel
theorem dX8_readWord_45 : decode cX8_readWord 45 = .ok (.aload_n 0, 1) := by decide +kernel
theorem dX8_readWord_46 : decode cX8_readWord 46 = .ok (.getfield 43, 3) := by decide +kernel
theorem dX8_readWord_49 : decode cX8_readWord 49 = .ok (.aload_n 0, 1) := by decide +kernel
theorem dX8_readWord_50 : decode cX8_readWord 50 = .ok (.getfield 49, 3) := by decide +kernel
theorem dX8_readWord_53 : decode cX8_readWord 53 = .ok (.isub, 1) := by decide +kernel
theorem dX8_readWord_54 : decode cX8_readWord 54 = .ok (.invokestatic 31, 3) := by decide +kernel
theorem dX8_readWord_57 : decode cX8_readWord 57 = .ok (.ior, 1) := by decide +kernel
theorem dX8_readWord_58 : decode cX8_readWord 58 = .ok (.putfield 76, 3) := by decide +kernel
theorem dX8_readWord_61 : decode cX8_readWord 61 = .ok (.aload_n 0, 1) := by decide +kernel
theorem dX8_readWord_62 : decode cX8_readWord 62 = .ok (.dup, 1) := by decide +kernel
theorem dX8_readWord_63 : decode cX8_readWord 63 = .ok (.getfield 43, 3) := by decide +kernel
theorem dX8_readWord_66 : decode cX8_readWord 66 = .ok (.iconst 1, 1) := by decide +kernel
theorem dX8_readWord_67 : decode cX8_readWord 67 = .ok (.iadd, 1) := by decide +kernel
theorem dX8_readWord_68 : decode cX8_readWord 68 = .ok (.putfield 43, 3) := by decide +kernel
theorem dX8_readWord_71 : decode cX8_readWord 71 = .ok (.goto (-66), 3) := by decide +kernel
theorem dX8_readWord_74 : decode cX8_readWord 74 = .ok (.aload_n 0, 1) := by decide +kernel
theorem dX8_readWord_75 : decode cX8_readWord 75 = .ok (.aload_n 0, 1) := by decide +kernel
theorem dX8_readWord_76 : decode cX8_readWord 76 = .ok (.getfield 43, 3) := by decide +kernel
theorem dX8_readWord_79 : decode cX8_readWord 79 = .ok (.aload_n 0, 1) := by decide +kernel
theorem dX8_readWord_80 : decode cX8_readWord 80 = .ok (.getfield 49, 3) := by decide +kernel
theorem dX8_readWord_83 : decode cX8_readWord 83 = .ok (.isub, 1) := by decide +kernel
theorem dX8_readWord_84 : decode cX8_readWord 84 = .ok (.bipush 6, 2) := by decide +kernel
theorem dX8_readWord_86 : decode cX8_readWord 86 = .ok (.if_icmp .le 8, 3) := by decide +kernel
theorem dX8_readWord_89 : decode cX8_readWord 89 = .ok (.bipush 41, 2) := by decide +kernel
theorem dX8_readWord_91 : decode cX8_readWord 91 = .ok (.goto 7, 3) := by decide +kernel
theorem dX8_readWord_94 : decode cX8_readWord 94 = .ok (.aload_n 0, 1) := by decide +kernel
theorem dX8_readWord_95 : decode cX8_readWord 95 = .ok (.invokevirtual 79, 3) := by decide +kernel
theorem dX8_readWord_98 : decode cX8_readWord 98 = .ok (.putfield 56, 3) := by decide +kernel
theorem dX8_readWord_101 : decode cX8_readWord 101 = .ok (.return_, 1) := by decide +kernel
theorem dX8_wordKind_0 : decode cX8_wordKind 0 = .ok (.iconst 0, 1) := by decide +kernel
theorem dX8_wordKind_1 : decode cX8_wordKind 1 = .ok (.istore_n 1, 1) := by decide +kernel
theorem dX8_wordKind_2 : decode cX8_wordKind 2 = .ok (.iload_n 1, 1) := by decide +kernel
theorem dX8_wordKind_3 : decode cX8_wordKind 3 = .ok (.bipush 25, 2) := by decide +kernel
theorem dX8_wordKind_5 : decode cX8_wordKind 5 = .ok (.if_icmp .ge 24, 3) := by decide +kernel
theorem dX8_wordKind_8 : decode cX8_wordKind 8 = .ok (.aload_n 0, 1) := by decide +kernel
theorem dX8_wordKind_9 : decode cX8_wordKind 9 = .ok (.getfield 9, 3) := by decide +kernel
theorem dX8_wordKind_12 : decode cX8_wordKind 12 = .ok (.iload_n 1, 1) := by decide +kernel
theorem dX8_wordKind_13 : decode cX8_wordKind 13 = .ok (.iaload, 1) := by decide +kernel
theorem dX8_wordKind_14 : decode cX8_wordKind 14 = .ok (.aload_n 0, 1) := by decide +kernel
theorem dX8_wordKind_15 : decode cX8_wordKind 15 = .ok (.getfield 76, 3) := by decide +kernel
theorem dX8_wordKind_18 : decode cX8_wordKind 18 = .ok (.if_icmp .ne 5, 3) := by decide +kernel
theorem dX8_wordKind_21 : decode cX8_wordKind 21 = .ok (.iload_n 1, 1) := by decide +kernel
theorem dX8_wordKind_22 : decode cX8_wordKind 22 = .ok (.ireturn, 1) := by decide +kernel
theorem dX8_wordKind_23 : decode cX8_wordKind 23 = .ok (.iinc 1 1, 3) := by decide +kernel
theorem dX8_wordKind_26 : decode cX8_wordKind 26 = .ok (.goto (-24), 3) := by decide +kernel
theorem dX8_wordKind_29 : decode cX8_wordKind 29 = .ok (.bipush 39, 2) := by decide +kernel
theorem dX8_wordKind_31 : decode cX8_wordKind 31 = .ok (.ireturn, 1) := by decide +kernel
theorem dX8_readNumber_0 : decode cX8_readNumber 0 = .ok (.aload_n 0, 1) := by decide +kernel
theorem dX8_readNumber_1 : decode cX8_readNumber 1 = .ok (.iconst 0, 1) := by decide +kernel
theorem dX8_readNumber_2 : decode cX8_readNumber 2 = .ok (.putfield 82, 3) := by decide +kernel
theorem dX8_readNumber_5 : decode cX8_readNumber 5 = .ok (.aload_n 0, 1) := by decide +kernel
theorem dX8_readNumber_6 : decode cX8_readNumber 6 = .ok (.getfield 43, 3) := by decide +kernel
theorem dX8_readNumber_9 : decode cX8_readNumber 9 = .ok (.aload_n 0, 1) := by decide +kernel
theorem dX8_readNumber_10 : decode cX8_readNumber 10 = .ok (.getfield 40, 3) := by decide +kernel
theorem dX8_readNumber_13 : decode cX8_readNumber 13 = .ok (.if_icmp .ge 60, 3) := by decide +kernel
theorem dX8_readNumber_16 : decode cX8_readNumber 16 = .ok (.aload_n 0, 1) := by decide +kernel
theorem dX8_readNumber_17 : decode cX8_readNumber 17 = .ok (.getfield 15, 3) := by decide +kernel
theorem dX8_readNumber_20 : decode cX8_readNumber 20 = .ok (.aload_n 0, 1) := by decide +kernel
theorem dX8_readNumber_21 : decode cX8_readNumber 21 = .ok (.getfield 43, 3) := by decide +kernel
theorem dX8_readNumber_24 : decode cX8_readNumber 24 = .ok (.baload, 1) := by decide +kernel
theorem dX8_readNumber_25 : decode cX8_readNumber 25 = .ok (.invokestatic 66, 3) := by decide +kernel
theorem dX8_readNumber_28 : decode cX8_readNumber 28 = .ok (.ifCond .eq 45, 3) := by decide +kernel
theorem dX8_readNumber_31 : decode cX8_readNumber 31 = .ok (.aload_n 0, 1) := by decide +kernel
theorem dX8_readNumber_32 : decode cX8_readNumber 32 = .ok (.ldc 85, 2) := by decide +kernel
theorem dX8_readNumber_34 : decode cX8_readNumber 34 = .ok (.aload_n 0, 1) := by decide +kernel
theorem dX8_readNumber_35 : decode cX8_readNumber 35 = .ok (.getfield 82, 3) := by decide +kernel
theorem dX8_readNumber_38 : decode cX8_readNumber 38 = .ok (.bipush 10, 2) := by decide +kernel
theorem dX8_readNumber_40 : decode cX8_readNumber 40 = .ok (.imul, 1) := by decide +kernel
theorem dX8_readNumber_41 : decode cX8_readNumber 41 = .ok (.aload_n 0, 1) := by decide +kernel
theorem dX8_readNumber_42 : decode cX8_readNumber 42 = .ok (.getfield 15, 3) := by decide +kernel
theorem dX8_readNumber_45 : decode cX8_readNumber 45 = .ok (.aload_n 0, 1) := by decide +kernel
theorem dX8_readNumber_46 : decode cX8_readNumber 46 = .ok (.getfield 43, 3) := by decide +kernel
theorem dX8_readNumber_49 : decode cX8_readNumber 49 = .ok (.baload, 1) := by decide +kernel
theorem dX8_readNumber_50 : decode cX8_readNumber 50 = .ok (.iadd, 1) := by decide +kernel
theorem dX8_readNumber_51 : decode cX8_readNumber 51 = .ok (.bipush 48, 2) := by decide +kernel
theorem dX8_readNumber_53 : decode cX8_readNumber 53 = .ok (.isub, 1) := by decide +kernel
theorem dX8_readNumber_54 : decode cX8_readNumber 54 = .ok (.invokestatic 35, 3) := by decide +kernel
theorem dX8_readNumber_57 : decode cX8_readNumber 57 = .ok (.putfield 82, 3) := by decide +kernel
theorem dX8_readNumber_60 : decode cX8_readNumber 60 = .ok (.aload_n 0, 1) := by decide +kernel
theorem dX8_readNumber_61 : decode cX8_readNumber 61 = .ok (.dup, 1) := by decide +kernel
theorem dX8_readNumber_62 : decode cX8_readNumber 62 = .ok (.getfield 43, 3) := by decide +kernel
theorem dX8_readNumber_65 : decode cX8_readNumber 65 = .ok (.iconst 1, 1) := by decide +kernel
theorem dX8_readNumber_66 : decode cX8_readNumber 66 = .ok (.iadd, 1) := by decide +kernel
theorem dX8_readNumber_67 : decode cX8_readNumber 67 = .ok (.putfield 43, 3) := by decide +kernel
theorem dX8_readNumber_70 : decode cX8_readNumber 70 = .ok (.goto (-65), 3) := by decide +kernel
theorem dX8_readNumber_73 : decode cX8_readNumber 73 = .ok (.aload_n 0, 1) := by decide +kernel
theorem dX8_readNumber_74 : decode cX8_readNumber 74 = .ok (.bipush 38, 2) := by decide +kernel
theorem dX8_readNumber_76 : decode cX8_readNumber 76 = .ok (.putfield 56, 3) := by decide +kernel
theorem dX8_readNumber_79 : decode cX8_readNumber 79 = .ok (.return_, 1) := by decide +kernel
theorem dX8_readSign_0 : decode cX8_readSign 0 = .ok (.aload_n 0, 1) := by decide +kernel
theorem dX8_readSign_1 : decode cX8_readSign 1 = .ok (.dup, 1) := by decide +kernel
theorem dX8_readSign_2 : decode cX8_readSign 2 = .ok (.getfield 43, 3) := by decide +kernel
theorem dX8_readSign_5 : decode cX8_readSign 5 = .ok (.iconst 1, 1) := by decide +kernel
theorem dX8_readSign_6 : decode cX8_readSign 6 = .ok (.iadd, 1) := by decide +kernel
theorem dX8_readSign_7 : decode cX8_readSign 7 = .ok (.putfield 43, 3) := by decide +kernel
theorem dX8_readSign_10 : decode cX8_readSign 10 = .ok (.aload_n 0, 1) := by decide +kernel
theorem dX8_readSign_11 : decode cX8_readSign 11 = .ok (.aload_n 0, 1) := by decide +kernel
theorem dX8_readSign_12 : decode cX8_readSign 12 = .ok (.getfield 43, 3) := by decide +kernel
theorem dX8_readSign_15 : decode cX8_readSign 15 = .ok (.invokevirtual 52, 3) := by decide +kernel
theorem dX8_readSign_18 : decode cX8_readSign 18 = .ok (.istore_n 2, 1) := by decide +kernel
theorem dX8_readSign_19 : decode cX8_readSign 19 = .ok (.iload_n 1, 1) := by decide +kernel
theorem dX8_readSign_20 : decode cX8_readSign 20 = .ok (.bipush 60, 2) := by decide +kernel
theorem dX8_readSign_22 : decode cX8_readSign 22 = .ok (.if_icmp .ne 28, 3) := by decide +kernel
theorem dX8_readSign_25 : decode cX8_readSign 25 = .ok (.iload_n 2, 1) := by decide +kernel
theorem dX8_readSign_26 : decode cX8_readSign 26 = .ok (.bipush 61, 2) := by decide +kernel
theorem dX8_readSign_28 : decode cX8_readSign 28 = .ok (.if_icmp .ne 22, 3) := by decide +kernel
theorem dX8_readSign_31 : decode cX8_readSign 31 = .ok (.aload_n 0, 1) := by decide +kernel
theorem dX8_readSign_32 : decode cX8_readSign 32 = .ok (.bipush 26, 2) := by decide +kernel
theorem dX8_readSign_34 : decode cX8_readSign 34 = .ok (.putfield 56, 3) := by decide +kernel
theorem dX8_readSign_37 : decode cX8_readSign 37 = .ok (.aload_n 0, 1) := by decide +kernel
theorem dX8_readSign_38 : decode cX8_readSign 38 = .ok (.dup, 1) := by decide +kernel
theorem dX8_readSign_39 : decode cX8_readSign 39 = .ok (.getfield 43, 3) := by decide +kernel
theorem dX8_readSign_42 : decode cX8_readSign 42 = .ok (.iconst 1, 1) := by decide +kernel
theorem dX8_readSign_43 : decode cX8_readSign 43 = .ok (.iadd, 1) := by decide +kernel
theorem dX8_readSign_44 : decode cX8_readSign 44 = .ok (.putfield 43, 3) := by decide +kernel
theorem dX8_readSign_47 : decode cX8_readSign 47 = .ok (.goto 73, 3) := by decide +kernel
theorem dX8_readSign_50 : decode cX8_readSign 50 = .ok (.iload_n 1, 1) := by decide +kernel
theorem dX8_readSign_51 : decode cX8_readSign 51 = .ok (.bipush 60, 2) := by decide +kernel
theorem dX8_readSign_53 : decode cX8_readSign 53 = .ok (.if_icmp .ne 28, 3) := by decide +kernel
theorem dX8_readSign_56 : decode cX8_readSign 56 = .ok (.iload_n 2, 1) := by decide +kernel
theorem dX8_readSign_57 : decode cX8_readSign 57 = .ok (.bipush 62, 2) := by decide +kernel
theorem dX8_readSign_59 : decode cX8_readSign 59 = .ok (.if_icmp .ne 22, 3) := by decide +kernel
theorem dX8_readSign_62 : decode cX8_readSign 62 = .ok (.aload_n 0, 1) := by decide +kernel
theorem dX8_readSign_63 : decode cX8_readSign 63 = .ok (.bipush 28, 2) := by decide +kernel
theorem dX8_readSign_65 : decode cX8_readSign 65 = .ok (.putfield 56, 3) := by decide +kernel
theorem dX8_readSign_68 : decode cX8_readSign 68 = .ok (.aload_n 0, 1) := by decide +kernel
theorem dX8_readSign_69 : decode cX8_readSign 69 = .ok (.dup, 1) := by decide +kernel
theorem dX8_readSign_70 : decode cX8_readSign 70 = .ok (.getfield 43, 3) := by decide +kernel
theorem dX8_readSign_73 : decode cX8_readSign 73 = .ok (.iconst 1, 1) := by decide +kernel
theorem dX8_readSign_74 : decode cX8_readSign 74 = .ok (.iadd, 1) := by decide +kernel
theorem dX8_readSign_75 : decode cX8_readSign 75 = .ok (.putfield 43, 3) := by decide +kernel
theorem dX8_readSign_78 : decode cX8_readSign 78 = .ok (.goto 42, 3) := by decide +kernel
theorem dX8_readSign_81 : decode cX8_readSign 81 = .ok (.iload_n 1, 1) := by decide +kernel
theorem dX8_readSign_82 : decode cX8_readSign 82 = .ok (.bipush 62, 2) := by decide +kernel
theorem dX8_readSign_84 : decode cX8_readSign 84 = .ok (.if_icmp .ne 28, 3) := by decide +kernel
theorem dX8_readSign_87 : decode cX8_readSign 87 = .ok (.iload_n 2, 1) := by decide +kernel
theorem dX8_readSign_88 : decode cX8_readSign 88 = .ok (.bipush 61, 2) := by decide +kernel
theorem dX8_readSign_90 : decode cX8_readSign 90 = .ok (.if_icmp .ne 22, 3) := by decide +kernel
theorem dX8_readSign_93 : decode cX8_readSign 93 = .ok (.aload_n 0, 1) := by decide +kernel
theorem dX8_readSign_94 : decode cX8_readSign 94 = .ok (.bipush 29, 2) := by decide +kernel
theorem dX8_readSign_96 : decode cX8_readSign 96 = .ok (.putfield 56, 3) := by decide +kernel
theorem dX8_readSign_99 : decode cX8_readSign 99 = .ok (.aload_n 0, 1) := by decide +kernel
theorem dX8_readSign_100 : decode cX8_readSign 100 = .ok (.dup, 1) := by decide +kernel
theorem dX8_readSign_101 : decode cX8_readSign 101 = .ok (.getfield 43, 3) := by decide +kernel
theorem dX8_readSign_104 : decode cX8_readSign 104 = .ok (.iconst 1, 1) := by decide +kernel
theorem dX8_readSign_105 : decode cX8_readSign 105 = .ok (.iadd, 1) := by decide +kernel
theorem dX8_readSign_106 : decode cX8_readSign 106 = .ok (.putfield 43, 3) := by decide +kernel
theorem dX8_readSign_109 : decode cX8_readSign 109 = .ok (.goto 11, 3) := by decide +kernel
theorem dX8_readSign_112 : decode cX8_readSign 112 = .ok (.aload_n 0, 1) := by decide +kernel
theorem dX8_readSign_113 : decode cX8_readSign 113 = .ok (.iload_n 1, 1) := by decide +kernel
theorem dX8_readSign_114 : decode cX8_readSign 114 = .ok (.invokestatic 86, 3) := by decide +kernel
theorem dX8_readSign_117 : decode cX8_readSign 117 = .ok (.putfield 56, 3) := by decide +kernel
theorem dX8_readSign_120 : decode cX8_readSign 120 = .ok (.return_, 1) := by decide +kernel
theorem dX8_singleSign_0 : decode cX8_singleSign 0 = .ok (.iload_n 0, 1) := by decide +kernel
theorem dX8_singleSign_1 : decode cX8_singleSign 1 = .ok (.tableswitch 137 40 62 #[128, 131, 122, 116, 137, 119, 137, 125, 137, 137, 137, 137, 137, 137, 137, 137, 137, 137, 137, 134, 107, 110, 113], 107) := by decide +kernel
theorem dX8_singleSign_108 : decode cX8_singleSign 108 = .ok (.bipush 25, 2) := by decide +kernel
theorem dX8_singleSign_110 : decode cX8_singleSign 110 = .ok (.ireturn, 1) := by decide +kernel
theorem dX8_singleSign_111 : decode cX8_singleSign 111 = .ok (.bipush 27, 2) := by decide +kernel
theorem dX8_singleSign_113 : decode cX8_singleSign 113 = .ok (.ireturn, 1) := by decide +kernel
theorem dX8_singleSign_114 : decode cX8_singleSign 114 = .ok (.bipush 30, 2) := by decide +kernel
theorem dX8_singleSign_116 : decode cX8_singleSign 116 = .ok (.ireturn, 1) := by decide +kernel
theorem dX8_singleSign_117 : decode cX8_singleSign 117 = .ok (.bipush 31, 2) := by decide +kernel
theorem dX8_singleSign_119 : decode cX8_singleSign 119 = .ok (.ireturn, 1) := by decide +kernel
theorem dX8_singleSign_120 : decode cX8_singleSign 120 = .ok (.bipush 32, 2) := by decide +kernel
theorem dX8_singleSign_122 : decode cX8_singleSign 122 = .ok (.ireturn, 1) := by decide +kernel
theorem dX8_singleSign_123 : decode cX8_singleSign 123 = .ok (.bipush 33, 2) := by decide +kernel
theorem dX8_singleSign_125 : decode cX8_singleSign 125 = .ok (.ireturn, 1) := by decide +kernel
theorem dX8_singleSign_126 : decode cX8_singleSign 126 = .ok (.bipush 34, 2) := by decide +kernel
theorem dX8_singleSign_128 : decode cX8_singleSign 128 = .ok (.ireturn, 1) := by decide +kernel
theorem dX8_singleSign_129 : decode cX8_singleSign 129 = .ok (.bipush 35, 2) := by decide +kernel
theorem dX8_singleSign_131 : decode cX8_singleSign 131 = .ok (.ireturn, 1) := by decide +kernel
theorem dX8_singleSign_132 : decode cX8_singleSign 132 = .ok (.bipush 36, 2) := by decide +kernel
theorem dX8_singleSign_134 : decode cX8_singleSign 134 = .ok (.ireturn, 1) := by decide +kernel
theorem dX8_singleSign_135 : decode cX8_singleSign 135 = .ok (.bipush 37, 2) := by decide +kernel
theorem dX8_singleSign_137 : decode cX8_singleSign 137 = .ok (.ireturn, 1) := by decide +kernel
theorem dX8_singleSign_138 : decode cX8_singleSign 138 = .ok (.bipush 41, 2) := by decide +kernel
theorem dX8_singleSign_140 : decode cX8_singleSign 140 = .ok (.ireturn, 1) := by decide +kernel
theorem dX9_init_0 : decode cX9_init 0 = .ok (.aload_n 0, 1) := by decide +kernel
theorem dX9_init_1 : decode cX9_init 1 = .ok (.invokespecial 3, 3) := by decide +kernel
theorem dX9_init_4 : decode cX9_init 4 = .ok (.aload_n 0, 1) := by decide +kernel
theorem dX9_init_5 : decode cX9_init 5 = .ok (.new 9, 3) := by decide +kernel
theorem dX9_init_8 : decode cX9_init 8 = .ok (.dup, 1) := by decide +kernel
theorem dX9_init_9 : decode cX9_init 9 = .ok (.invokespecial 11, 3) := by decide +kernel
theorem dX9_init_12 : decode cX9_init 12 = .ok (.putfield 12, 3) := by decide +kernel
theorem dX9_init_15 : decode cX9_init 15 = .ok (.aload_n 0, 1) := by decide +kernel
theorem dX9_init_16 : decode cX9_init 16 = .ok (.new 9, 3) := by decide +kernel
theorem dX9_init_19 : decode cX9_init 19 = .ok (.dup, 1) := by decide +kernel
theorem dX9_init_20 : decode cX9_init 20 = .ok (.invokespecial 11, 3) := by decide +kernel
theorem dX9_init_23 : decode cX9_init 23 = .ok (.putfield 18, 3) := by decide +kernel
theorem dX9_init_26 : decode cX9_init 26 = .ok (.aload_n 0, 1) := by decide +kernel
theorem dX9_init_27 : decode cX9_init 27 = .ok (.bipush 6, 2) := by decide +kernel
theorem dX9_init_29 : decode cX9_init 29 = .ok (.newarray .int, 2) := by decide +kernel
theorem dX9_init_31 : decode cX9_init 31 = .ok (.putfield 21, 3) := by decide +kernel
theorem dX9_init_34 : decode cX9_init 34 = .ok (.aload_n 0, 1) := by decide +kernel
theorem dX9_init_35 : decode cX9_init 35 = .ok (.bipush 6, 2) := by decide +kernel
theorem dX9_init_37 : decode cX9_init 37 = .ok (.newarray .int, 2) := by decide +kernel
theorem dX9_init_39 : decode cX9_init 39 = .ok (.putfield 25, 3) := by decide +kernel
theorem dX9_init_42 : decode cX9_init 42 = .ok (.aload_n 0, 1) := by decide +kernel
theorem dX9_init_43 : decode cX9_init 43 = .ok (.bipush 6, 2) := by decide +kernel
theorem dX9_init_45 : decode cX9_init 45 = .ok (.newarray .int, 2) := by decide +kernel
theorem dX9_init_47 : decode cX9_init 47 = .ok (.putfield 28, 3) := by decide +kernel
theorem dX9_init_50 : decode cX9_init 50 = .ok (.aload_n 0, 1) := by decide +kernel
theorem dX9_init_51 : decode cX9_init 51 = .ok (.new 31, 3) := by decide +kernel
theorem dX9_init_54 : decode cX9_init 54 = .ok (.dup, 1) := by decide +kernel
theorem dX9_init_55 : decode cX9_init 55 = .ok (.invokespecial 33, 3) := by decide +kernel
theorem dX9_init_58 : decode cX9_init 58 = .ok (.putfield 34, 3) := by decide +kernel
theorem dX9_init_61 : decode cX9_init 61 = .ok (.aload_n 0, 1) := by decide +kernel
theorem dX9_init_62 : decode cX9_init 62 = .ok (.bipush 12, 2) := by decide +kernel
theorem dX9_init_64 : decode cX9_init 64 = .ok (.newarray .int, 2) := by decide +kernel
theorem dX9_init_66 : decode cX9_init 66 = .ok (.putfield 38, 3) := by decide +kernel
theorem dX9_init_69 : decode cX9_init 69 = .ok (.aload_n 0, 1) := by decide +kernel
theorem dX9_init_70 : decode cX9_init 70 = .ok (.bipush 6, 2) := by decide +kernel
theorem dX9_init_72 : decode cX9_init 72 = .ok (.newarray .int, 2) := by decide +kernel
theorem dX9_init_74 : decode cX9_init 74 = .ok (.putfield 41, 3) := by decide +kernel
theorem dX9_init_77 : decode cX9_init 77 = .ok (.aload_n 0, 1) := by decide +kernel
theorem dX9_init_78 : decode cX9_init 78 = .ok (.aload_n 1, 1) := by decide +kernel
theorem dX9_init_79 : decode cX9_init 79 = .ok (.invokevirtual 44, 3) := by decide +kernel
theorem dX9_init_82 : decode cX9_init 82 = .ok (.return_, 1) := by decide +kernel
theorem dX9_begin_0 : decode cX9_begin 0 = .ok (.aload_n 0, 1) := by decide +kernel
theorem dX9_begin_1 : decode cX9_begin 1 = .ok (.aload_n 1, 1) := by decide +kernel
theorem dX9_begin_2 : decode cX9_begin 2 = .ok (.putfield 48, 3) := by decide +kernel
theorem dX9_begin_5 : decode cX9_begin 5 = .ok (.aload_n 0, 1) := by decide +kernel
theorem dX9_begin_6 : decode cX9_begin 6 = .ok (.aload_n 1, 1) := by decide +kernel
theorem dX9_begin_7 : decode cX9_begin 7 = .ok (.getfield 52, 3) := by decide +kernel
theorem dX9_begin_10 : decode cX9_begin 10 = .ok (.putfield 58, 3) := by decide +kernel
theorem dX9_begin_13 : decode cX9_begin 13 = .ok (.aload_n 0, 1) := by decide +kernel
theorem dX9_begin_14 : decode cX9_begin 14 = .ok (.aload_n 1, 1) := by decide +kernel
theorem dX9_begin_15 : decode cX9_begin 15 = .ok (.getfield 59, 3) := by decide +kernel
theorem dX9_begin_18 : decode cX9_begin 18 = .ok (.putfield 63, 3) := by decide +kernel
theorem dX9_begin_21 : decode cX9_begin 21 = .ok (.aload_n 0, 1) := by decide +kernel
theorem dX9_begin_22 : decode cX9_begin 22 = .ok (.aload_n 1, 1) := by decide +kernel
theorem dX9_begin_23 : decode cX9_begin 23 = .ok (.getfield 64, 3) := by decide +kernel
theorem dX9_begin_26 : decode cX9_begin 26 = .ok (.putfield 67, 3) := by decide +kernel
theorem dX9_begin_29 : decode cX9_begin 29 = .ok (.aload_n 0, 1) := by decide +kernel
theorem dX9_begin_30 : decode cX9_begin 30 = .ok (.aload_n 1, 1) := by decide +kernel
theorem dX9_begin_31 : decode cX9_begin 31 = .ok (.getfield 68, 3) := by decide +kernel
theorem dX9_begin_34 : decode cX9_begin 34 = .ok (.putfield 72, 3) := by decide +kernel
theorem dX9_begin_37 : decode cX9_begin 37 = .ok (.aload_n 0, 1) := by decide +kernel
theorem dX9_begin_38 : decode cX9_begin 38 = .ok (.aload_n 1, 1) := by decide +kernel
theorem dX9_begin_39 : decode cX9_begin 39 = .ok (.getfield 73, 3) := by decide +kernel
theorem dX9_begin_42 : decode cX9_begin 42 = .ok (.putfield 76, 3) := by decide +kernel
theorem dX9_begin_45 : decode cX9_begin 45 = .ok (.aload_n 0, 1) := by decide +kernel
theorem dX9_begin_46 : decode cX9_begin 46 = .ok (.iconst 0, 1) := by decide +kernel
theorem dX9_begin_47 : decode cX9_begin 47 = .ok (.putfield 79, 3) := by decide +kernel
theorem dX9_begin_50 : decode cX9_begin 50 = .ok (.aload_n 0, 1) := by decide +kernel
theorem dX9_begin_51 : decode cX9_begin 51 = .ok (.iconst 0, 1) := by decide +kernel
theorem dX9_begin_52 : decode cX9_begin 52 = .ok (.putfield 83, 3) := by decide +kernel
theorem dX9_begin_55 : decode cX9_begin 55 = .ok (.aload_n 0, 1) := by decide +kernel
theorem dX9_begin_56 : decode cX9_begin 56 = .ok (.getfield 34, 3) := by decide +kernel
theorem dX9_begin_59 : decode cX9_begin 59 = .ok (.aload_n 1, 1) := by decide +kernel
theorem dX9_begin_60 : decode cX9_begin 60 = .ok (.getfield 86, 3) := by decide +kernel
theorem dX9_begin_63 : decode cX9_begin 63 = .ok (.invokevirtual 87, 3) := by decide +kernel
theorem dX9_begin_66 : decode cX9_begin 66 = .ok (.aload_n 0, 1) := by decide +kernel
theorem dX9_begin_67 : decode cX9_begin 67 = .ok (.invokevirtual 91, 3) := by decide +kernel
theorem dX9_begin_70 : decode cX9_begin 70 = .ok (.aload_n 0, 1) := by decide +kernel
theorem dX9_begin_71 : decode cX9_begin 71 = .ok (.invokevirtual 94, 3) := by decide +kernel
theorem dX9_begin_74 : decode cX9_begin 74 = .ok (.return_, 1) := by decide +kernel
theorem dX9_rest_0 : decode cX9_rest 0 = .ok (.aload_n 0, 1) := by decide +kernel
theorem dX9_rest_1 : decode cX9_rest 1 = .ok (.getfield 12, 3) := by decide +kernel
theorem dX9_rest_4 : decode cX9_rest 4 = .ok (.invokevirtual 97, 3) := by decide +kernel
theorem dX9_rest_7 : decode cX9_rest 7 = .ok (.aload_n 0, 1) := by decide +kernel
theorem dX9_rest_8 : decode cX9_rest 8 = .ok (.getfield 18, 3) := by decide +kernel
theorem dX9_rest_11 : decode cX9_rest 11 = .ok (.invokevirtual 97, 3) := by decide +kernel
theorem dX9_rest_14 : decode cX9_rest 14 = .ok (.aload_n 0, 1) := by decide +kernel
theorem dX9_rest_15 : decode cX9_rest 15 = .ok (.iconst 0, 1) := by decide +kernel
theorem dX9_rest_16 : decode cX9_rest 16 = .ok (.putfield 98, 3) := by decide +kernel
theorem dX9_rest_19 : decode cX9_rest 19 = .ok (.aload_n 0, 1) := by decide +kernel
theorem dX9_rest_20 : decode cX9_rest 20 = .ok (.getfield 21, 3) := by decide +kernel
theorem dX9_rest_23 : decode cX9_rest 23 = .ok (.iconst 0, 1) := by decide +kernel
theorem dX9_rest_24 : decode cX9_rest 24 = .ok (.invokestatic 101, 3) := by decide +kernel
theorem dX9_rest_27 : decode cX9_rest 27 = .ok (.aload_n 0, 1) := by decide +kernel
theorem dX9_rest_28 : decode cX9_rest 28 = .ok (.getfield 25, 3) := by decide +kernel
theorem dX9_rest_31 : decode cX9_rest 31 = .ok (.iconst 0, 1) := by decide +kernel
theorem dX9_rest_32 : decode cX9_rest 32 = .ok (.invokestatic 101, 3) := by decide +kernel
theorem dX9_rest_35 : decode cX9_rest 35 = .ok (.aload_n 0, 1) := by decide +kernel
theorem dX9_rest_36 : decode cX9_rest 36 = .ok (.getfield 28, 3) := by decide +kernel
theorem dX9_rest_39 : decode cX9_rest 39 = .ok (.iconst 0, 1) := by decide +kernel
theorem dX9_rest_40 : decode cX9_rest 40 = .ok (.invokestatic 101, 3) := by decide +kernel
theorem dX9_rest_43 : decode cX9_rest 43 = .ok (.aload_n 0, 1) := by decide +kernel
theorem dX9_rest_44 : decode cX9_rest 44 = .ok (.iconst 0, 1) := by decide +kernel
theorem dX9_rest_45 : decode cX9_rest 45 = .ok (.putfield 107, 3) := by decide +kernel
theorem dX9_rest_48 : decode cX9_rest 48 = .ok (.return_, 1) := by decide +kernel
theorem dX9_copy_0 : decode cX9_copy 0 = .ok (.aload_n 0, 1) := by decide +kernel
theorem dX9_copy_1 : decode cX9_copy 1 = .ok (.aload_n 1, 1) := by decide +kernel
theorem dX9_copy_2 : decode cX9_copy 2 = .ok (.getfield 48, 3) := by decide +kernel
theorem dX9_copy_5 : decode cX9_copy 5 = .ok (.putfield 48, 3) := by decide +kernel
theorem dX9_copy_8 : decode cX9_copy 8 = .ok (.aload_n 0, 1) := by decide +kernel
theorem dX9_copy_9 : decode cX9_copy 9 = .ok (.aload_n 1, 1) := by decide +kernel
theorem dX9_copy_10 : decode cX9_copy 10 = .ok (.getfield 58, 3) := by decide +kernel
theorem dX9_copy_13 : decode cX9_copy 13 = .ok (.putfield 58, 3) := by decide +kernel
theorem dX9_copy_16 : decode cX9_copy 16 = .ok (.aload_n 0, 1) := by decide +kernel
theorem dX9_copy_17 : decode cX9_copy 17 = .ok (.aload_n 1, 1) := by decide +kernel
theorem dX9_copy_18 : decode cX9_copy 18 = .ok (.getfield 63, 3) := by decide +kernel
theorem dX9_copy_21 : decode cX9_copy 21 = .ok (.putfield 63, 3) := by decide +kernel
theorem dX9_copy_24 : decode cX9_copy 24 = .ok (.aload_n 0, 1) := by decide +kernel
theorem dX9_copy_25 : decode cX9_copy 25 = .ok (.aload_n 1, 1) := by decide +kernel
theorem dX9_copy_26 : decode cX9_copy 26 = .ok (.getfield 67, 3) := by decide +kernel
theorem dX9_copy_29 : decode cX9_copy 29 = .ok (.putfield 67, 3) := by decide +kernel
theorem dX9_copy_32 : decode cX9_copy 32 = .ok (.aload_n 0, 1) := by decide +kernel
theorem dX9_copy_33 : decode cX9_copy 33 = .ok (.aload_n 1, 1) := by decide +kernel
theorem dX9_copy_34 : decode cX9_copy 34 = .ok (.getfield 72, 3) := by decide +kernel
theorem dX9_copy_37 : decode cX9_copy 37 = .ok (.putfield 72, 3) := by decide +kernel
theorem dX9_copy_40 : decode cX9_copy 40 = .ok (.aload_n 0, 1) := by decide +kernel
theorem dX9_copy_41 : decode cX9_copy 41 = .ok (.getfield 12, 3) := by decide +kernel
theorem dX9_copy_44 : decode cX9_copy 44 = .ok (.aload_n 1, 1) := by decide +kernel
theorem dX9_copy_45 : decode cX9_copy 45 = .ok (.getfield 12, 3) := by decide +kernel
theorem dX9_copy_48 : decode cX9_copy 48 = .ok (.invokevirtual 110, 3) := by decide +kernel
theorem dX9_copy_51 : decode cX9_copy 51 = .ok (.aload_n 0, 1) := by decide +kernel
theorem dX9_copy_52 : decode cX9_copy 52 = .ok (.getfield 18, 3) := by decide +kernel
theorem dX9_copy_55 : decode cX9_copy 55 = .ok (.aload_n 1, 1) := by decide +kernel
theorem dX9_copy_56 : decode cX9_copy 56 = .ok (.getfield 18, 3) := by decide +kernel
theorem dX9_copy_59 : decode cX9_copy 59 = .ok (.invokevirtual 110, 3) := by decide +kernel
theorem dX9_copy_62 : decode cX9_copy 62 = .ok (.aload_n 0, 1) := by decide +kernel
theorem dX9_copy_63 : decode cX9_copy 63 = .ok (.aload_n 1, 1) := by decide +kernel
theorem dX9_copy_64 : decode cX9_copy 64 = .ok (.getfield 98, 3) := by decide +kernel
theorem dX9_copy_67 : decode cX9_copy 67 = .ok (.putfield 98, 3) := by decide +kernel
theorem dX9_copy_70 : decode cX9_copy 70 = .ok (.aload_n 1, 1) := by decide +kernel
theorem dX9_copy_71 : decode cX9_copy 71 = .ok (.getfield 21, 3) := by decide +kernel
theorem dX9_copy_74 : decode cX9_copy 74 = .ok (.iconst 0, 1) := by decide +kernel
theorem dX9_copy_75 : decode cX9_copy 75 = .ok (.aload_n 0, 1) := by decide +kernel
theorem dX9_copy_76 : decode cX9_copy 76 = .ok (.getfield 21, 3) := by decide +kernel
theorem dX9_copy_79 : decode cX9_copy 79 = .ok (.iconst 0, 1) := by decide +kernel
theorem dX9_copy_80 : decode cX9_copy 80 = .ok (.bipush 6, 2) := by decide +kernel
theorem dX9_copy_82 : decode cX9_copy 82 = .ok (.invokestatic 113, 3) := by decide +kernel
theorem dX9_copy_85 : decode cX9_copy 85 = .ok (.aload_n 1, 1) := by decide +kernel
theorem dX9_copy_86 : decode cX9_copy 86 = .ok (.getfield 25, 3) := by decide +kernel
theorem dX9_copy_89 : decode cX9_copy 89 = .ok (.iconst 0, 1) := by decide +kernel
theorem dX9_copy_90 : decode cX9_copy 90 = .ok (.aload_n 0, 1) := by decide +kernel
theorem dX9_copy_91 : decode cX9_copy 91 = .ok (.getfield 25, 3) := by decide +kernel
theorem dX9_copy_94 : decode cX9_copy 94 = .ok (.iconst 0, 1) := by decide +kernel
theorem dX9_copy_95 : decode cX9_copy 95 = .ok (.bipush 6, 2) := by decide +kernel
theorem dX9_copy_97 : decode cX9_copy 97 = .ok (.invokestatic 113, 3) := by decide +kernel
theorem dX9_copy_100 : decode cX9_copy 100 = .ok (.aload_n 1, 1) := by decide +kernel
theorem dX9_copy_101 : decode cX9_copy 101 = .ok (.getfield 28, 3) := by decide +kernel
theorem dX9_copy_104 : decode cX9_copy 104 = .ok (.iconst 0, 1) := by decide +kernel
theorem dX9_copy_105 : decode cX9_copy 105 = .ok (.aload_n 0, 1) := by decide +kernel
theorem dX9_copy_106 : decode cX9_copy 106 = .ok (.getfield 28, 3) := by decide +kernel
theorem dX9_copy_109 : decode cX9_copy 109 = .ok (.iconst 0, 1) := by decide +kernel
theorem dX9_copy_110 : decode cX9_copy 110 = .ok (.bipush 6, 2) := by decide +kernel
theorem dX9_copy_112 : decode cX9_copy 112 = .ok (.invokestatic 113, 3) := by decide +kernel
theorem dX9_copy_115 : decode cX9_copy 115 = .ok (.aload_n 0, 1) := by decide +kernel
theorem dX9_copy_116 : decode cX9_copy 116 = .ok (.getfield 34, 3) := by decide +kernel
theorem dX9_copy_119 : decode cX9_copy 119 = .ok (.aload_n 1, 1) := by decide +kernel
theorem dX9_copy_120 : decode cX9_copy 120 = .ok (.getfield 34, 3) := by decide +kernel
theorem dX9_copy_123 : decode cX9_copy 123 = .ok (.invokevirtual 87, 3) := by decide +kernel
theorem dX9_copy_126 : decode cX9_copy 126 = .ok (.aload_n 1, 1) := by decide +kernel
theorem dX9_copy_127 : decode cX9_copy 127 = .ok (.getfield 38, 3) := by decide +kernel
theorem dX9_copy_130 : decode cX9_copy 130 = .ok (.iconst 0, 1) := by decide +kernel
theorem dX9_copy_131 : decode cX9_copy 131 = .ok (.aload_n 0, 1) := by decide +kernel
theorem dX9_copy_132 : decode cX9_copy 132 = .ok (.getfield 38, 3) := by decide +kernel
theorem dX9_copy_135 : decode cX9_copy 135 = .ok (.iconst 0, 1) := by decide +kernel
theorem dX9_copy_136 : decode cX9_copy 136 = .ok (.bipush 12, 2) := by decide +kernel
theorem dX9_copy_138 : decode cX9_copy 138 = .ok (.invokestatic 113, 3) := by decide +kernel
theorem dX9_copy_141 : decode cX9_copy 141 = .ok (.aload_n 0, 1) := by decide +kernel
theorem dX9_copy_142 : decode cX9_copy 142 = .ok (.aload_n 1, 1) := by decide +kernel
theorem dX9_copy_143 : decode cX9_copy 143 = .ok (.getfield 107, 3) := by decide +kernel
theorem dX9_copy_146 : decode cX9_copy 146 = .ok (.putfield 107, 3) := by decide +kernel
theorem dX9_copy_149 : decode cX9_copy 149 = .ok (.aload_n 0, 1) := by decide +kernel
theorem dX9_copy_150 : decode cX9_copy 150 = .ok (.aload_n 1, 1) := by decide +kernel
theorem dX9_copy_151 : decode cX9_copy 151 = .ok (.getfield 76, 3) := by decide +kernel
theorem dX9_copy_154 : decode cX9_copy 154 = .ok (.putfield 76, 3) := by decide +kernel
theorem dX9_copy_157 : decode cX9_copy 157 = .ok (.aload_n 0, 1) := by decide +kernel
theorem dX9_copy_158 : decode cX9_copy 158 = .ok (.aload_n 1, 1) := by decide +kernel
theorem dX9_copy_159 : decode cX9_copy 159 = .ok (.getfield 79, 3) := by decide +kernel
theorem dX9_copy_162 : decode cX9_copy 162 = .ok (.putfield 79, 3) := by decide +kernel
theorem dX9_copy_165 : decode cX9_copy 165 = .ok (.aload_n 0, 1) := by decide +kernel
theorem dX9_copy_166 : decode cX9_copy 166 = .ok (.aload_n 1, 1) := by decide +kernel
theorem dX9_copy_167 : decode cX9_copy 167 = .ok (.getfield 83, 3) := by decide +kernel
theorem dX9_copy_170 : decode cX9_copy 170 = .ok (.putfield 83, 3) := by decide +kernel
theorem dX9_copy_173 : decode cX9_copy 173 = .ok (.return_, 1) := by decide +kernel
theorem dX9_addFat_0 : decode cX9_addFat 0 = .ok (.aload_n 0, 1) := by decide +kernel
theorem dX9_addFat_1 : decode cX9_addFat 1 = .ok (.getfield 34, 3) := by decide +kernel
theorem dX9_addFat_4 : decode cX9_addFat 4 = .ok (.iload_n 1, 1) := by decide +kernel
theorem dX9_addFat_5 : decode cX9_addFat 5 = .ok (.iload_n 2, 1) := by decide +kernel
theorem dX9_addFat_6 : decode cX9_addFat 6 = .ok (.invokevirtual 119, 3) := by decide +kernel
theorem dX9_addFat_9 : decode cX9_addFat 9 = .ok (.aload_n 0, 1) := by decide +kernel
theorem dX9_addFat_10 : decode cX9_addFat 10 = .ok (.invokevirtual 91, 3) := by decide +kernel
theorem dX9_addFat_13 : decode cX9_addFat 13 = .ok (.return_, 1) := by decide +kernel
theorem dX9_dropLastFat_0 : decode cX9_dropLastFat 0 = .ok (.aload_n 0, 1) := by decide +kernel
theorem dX9_dropLastFat_1 : decode cX9_dropLastFat 1 = .ok (.getfield 34, 3) := by decide +kernel
theorem dX9_dropLastFat_4 : decode cX9_dropLastFat 4 = .ok (.iconst 0, 1) := by decide +kernel
theorem dX9_dropLastFat_5 : decode cX9_dropLastFat 5 = .ok (.aload_n 0, 1) := by decide +kernel
theorem dX9_dropLastFat_6 : decode cX9_dropLastFat 6 = .ok (.getfield 34, 3) := by decide +kernel
theorem dX9_dropLastFat_9 : decode cX9_dropLastFat 9 = .ok (.getfield 123, 3) := by decide +kernel
theorem dX9_dropLastFat_12 : decode cX9_dropLastFat 12 = .ok (.iconst 1, 1) := by decide +kernel
theorem dX9_dropLastFat_13 : decode cX9_dropLastFat 13 = .ok (.isub, 1) := by decide +kernel
theorem dX9_dropLastFat_14 : decode cX9_dropLastFat 14 = .ok (.invokestatic 126, 3) := by decide +kernel
theorem dX9_dropLastFat_17 : decode cX9_dropLastFat 17 = .ok (.putfield 123, 3) := by decide +kernel
theorem dX9_dropLastFat_20 : decode cX9_dropLastFat 20 = .ok (.aload_n 0, 1) := by decide +kernel
theorem dX9_dropLastFat_21 : decode cX9_dropLastFat 21 = .ok (.invokevirtual 91, 3) := by decide +kernel
theorem dX9_dropLastFat_24 : decode cX9_dropLastFat 24 = .ok (.return_, 1) := by decide +kernel
theorem dX9_dropAllFat_0 : decode cX9_dropAllFat 0 = .ok (.aload_n 0, 1) := by decide +kernel
theorem dX9_dropAllFat_1 : decode cX9_dropAllFat 1 = .ok (.getfield 34, 3) := by decide +kernel
theorem dX9_dropAllFat_4 : decode cX9_dropAllFat 4 = .ok (.iconst 0, 1) := by decide +kernel
theorem dX9_dropAllFat_5 : decode cX9_dropAllFat 5 = .ok (.putfield 123, 3) := by decide +kernel
theorem dX9_dropAllFat_8 : decode cX9_dropAllFat 8 = .ok (.aload_n 0, 1) := by decide +kernel
theorem dX9_dropAllFat_9 : decode cX9_dropAllFat 9 = .ok (.invokevirtual 91, 3) := by decide +kernel
theorem dX9_dropAllFat_12 : decode cX9_dropAllFat 12 = .ok (.return_, 1) := by decide +kernel
theorem dX9_refreshCalm_0 : decode cX9_refreshCalm 0 = .ok (.aload_n 0, 1) := by decide +kernel
theorem dX9_refreshCalm_1 : decode cX9_refreshCalm 1 = .ok (.getfield 38, 3) := by decide +kernel
theorem dX9_refreshCalm_4 : decode cX9_refreshCalm 4 = .ok (.aload_n 0, 1) := by decide +kernel
theorem dX9_refreshCalm_5 : decode cX9_refreshCalm 5 = .ok (.getfield 48, 3) := by decide +kernel
theorem dX9_refreshCalm_8 : decode cX9_refreshCalm 8 = .ok (.getfield 132, 3) := by decide +kernel
theorem dX9_refreshCalm_11 : decode cX9_refreshCalm 11 = .ok (.invokestatic 101, 3) := by decide +kernel
theorem dX9_refreshCalm_14 : decode cX9_refreshCalm 14 = .ok (.iconst 0, 1) := by decide +kernel
theorem dX9_refreshCalm_15 : decode cX9_refreshCalm 15 = .ok (.istore_n 1, 1) := by decide +kernel
theorem dX9_refreshCalm_16 : decode cX9_refreshCalm 16 = .ok (.iload_n 1, 1) := by decide +kernel
theorem dX9_refreshCalm_17 : decode cX9_refreshCalm 17 = .ok (.aload_n 0, 1) := by decide +kernel
theorem dX9_refreshCalm_18 : decode cX9_refreshCalm 18 = .ok (.getfield 34, 3) := by decide +kernel
theorem dX9_refreshCalm_21 : decode cX9_refreshCalm 21 = .ok (.getfield 123, 3) := by decide +kernel
theorem dX9_refreshCalm_24 : decode cX9_refreshCalm 24 = .ok (.if_icmp .ge 46, 3) := by decide +kernel
theorem dX9_refreshCalm_27 : decode cX9_refreshCalm 27 = .ok (.aload_n 0, 1) := by decide +kernel
theorem dX9_refreshCalm_28 : decode cX9_refreshCalm 28 = .ok (.getfield 34, 3) := by decide +kernel
theorem dX9_refreshCalm_31 : decode cX9_refreshCalm 31 = .ok (.getfield 134, 3) := by decide +kernel
theorem dX9_refreshCalm_34 : decode cX9_refreshCalm 34 = .ok (.iload_n 1, 1) := by decide +kernel
theorem dX9_refreshCalm_35 : decode cX9_refreshCalm 35 = .ok (.iaload, 1) := by decide +kernel
theorem dX9_refreshCalm_36 : decode cX9_refreshCalm 36 = .ok (.istore_n 2, 1) := by decide +kernel
theorem dX9_refreshCalm_37 : decode cX9_refreshCalm 37 = .ok (.aload_n 0, 1) := by decide +kernel
theorem dX9_refreshCalm_38 : decode cX9_refreshCalm 38 = .ok (.getfield 38, 3) := by decide +kernel
theorem dX9_refreshCalm_41 : decode cX9_refreshCalm 41 = .ok (.iload_n 2, 1) := by decide +kernel
theorem dX9_refreshCalm_42 : decode cX9_refreshCalm 42 = .ok (.bipush 100, 2) := by decide +kernel
theorem dX9_refreshCalm_44 : decode cX9_refreshCalm 44 = .ok (.aload_n 0, 1) := by decide +kernel
theorem dX9_refreshCalm_45 : decode cX9_refreshCalm 45 = .ok (.getfield 38, 3) := by decide +kernel
theorem dX9_refreshCalm_48 : decode cX9_refreshCalm 48 = .ok (.iload_n 2, 1) := by decide +kernel
theorem dX9_refreshCalm_49 : decode cX9_refreshCalm 49 = .ok (.iaload, 1) := by decide +kernel
theorem dX9_refreshCalm_50 : decode cX9_refreshCalm 50 = .ok (.aload_n 0, 1) := by decide +kernel
theorem dX9_refreshCalm_51 : decode cX9_refreshCalm 51 = .ok (.getfield 34, 3) := by decide +kernel
theorem dX9_refreshCalm_54 : decode cX9_refreshCalm 54 = .ok (.getfield 137, 3) := by decide +kernel
theorem dX9_refreshCalm_57 : decode cX9_refreshCalm 57 = .ok (.iload_n 1, 1) := by decide +kernel
theorem dX9_refreshCalm_58 : decode cX9_refreshCalm 58 = .ok (.iaload, 1) := by decide +kernel
theorem dX9_refreshCalm_59 : decode cX9_refreshCalm 59 = .ok (.iadd, 1) := by decide +kernel
theorem dX9_refreshCalm_60 : decode cX9_refreshCalm 60 = .ok (.invokestatic 138, 3) := by decide +kernel
theorem dX9_refreshCalm_63 : decode cX9_refreshCalm 63 = .ok (.iastore, 1) := by decide +kernel
theorem dX9_refreshCalm_64 : decode cX9_refreshCalm 64 = .ok (.iinc 1 1, 3) := by decide +kernel
theorem dX9_refreshCalm_67 : decode cX9_refreshCalm 67 = .ok (.goto (-51), 3) := by decide +kernel
theorem dX9_refreshCalm_70 : decode cX9_refreshCalm 70 = .ok (.return_, 1) := by decide +kernel
theorem dX9_leaveOnly_0 : decode cX9_leaveOnly 0 = .ok (.iconst 0, 1) := by decide +kernel
theorem dX9_leaveOnly_1 : decode cX9_leaveOnly 1 = .ok (.istore_n 2, 1) := by decide +kernel
theorem dX9_leaveOnly_2 : decode cX9_leaveOnly 2 = .ok (.iload_n 2, 1) := by decide +kernel
theorem dX9_leaveOnly_3 : decode cX9_leaveOnly 3 = .ok (.bipush 6, 2) := by decide +kernel
theorem dX9_leaveOnly_5 : decode cX9_leaveOnly 5 = .ok (.if_icmp .ge 24, 3) := by decide +kernel
theorem dX9_leaveOnly_8 : decode cX9_leaveOnly 8 = .ok (.iload_n 1, 1) := by decide +kernel
theorem dX9_leaveOnly_9 : decode cX9_leaveOnly 9 = .ok (.iload_n 2, 1) := by decide +kernel
theorem dX9_leaveOnly_10 : decode cX9_leaveOnly 10 = .ok (.ishr, 1) := by decide +kernel
theorem dX9_leaveOnly_11 : decode cX9_leaveOnly 11 = .ok (.iconst 1, 1) := by decide +kernel
theorem dX9_leaveOnly_12 : decode cX9_leaveOnly 12 = .ok (.iand, 1) := by decide +kernel
theorem dX9_leaveOnly_13 : decode cX9_leaveOnly 13 = .ok (.ifCond .ne 10, 3) := by decide +kernel
theorem dX9_leaveOnly_16 : decode cX9_leaveOnly 16 = .ok (.aload_n 0, 1) := by decide +kernel
theorem dX9_leaveOnly_17 : decode cX9_leaveOnly 17 = .ok (.getfield 28, 3) := by decide +kernel
theorem dX9_leaveOnly_20 : decode cX9_leaveOnly 20 = .ok (.iload_n 2, 1) := by decide +kernel
theorem dX9_leaveOnly_21 : decode cX9_leaveOnly 21 = .ok (.iconst 2, 1) := by decide +kernel
theorem dX9_leaveOnly_22 : decode cX9_leaveOnly 22 = .ok (.iastore, 1) := by decide +kernel
theorem dX9_leaveOnly_23 : decode cX9_leaveOnly 23 = .ok (.iinc 2 1, 3) := by decide +kernel
theorem dX9_leaveOnly_26 : decode cX9_leaveOnly 26 = .ok (.goto (-24), 3) := by decide +kernel
theorem dX9_leaveOnly_29 : decode cX9_leaveOnly 29 = .ok (.return_, 1) := by decide +kernel
theorem dX9_highest_0 : decode cX9_highest 0 = .ok (.iconst 0, 1) := by decide +kernel
theorem dX9_highest_1 : decode cX9_highest 1 = .ok (.istore_n 3, 1) := by decide +kernel
theorem dX9_highest_2 : decode cX9_highest 2 = .ok (.iconst 0, 1) := by decide +kernel
theorem dX9_highest_3 : decode cX9_highest 3 = .ok (.istore 4, 2) := by decide +kernel
theorem dX9_highest_5 : decode cX9_highest 5 = .ok (.iload 4, 2) := by decide +kernel
theorem dX9_highest_7 : decode cX9_highest 7 = .ok (.iload_n 1, 1) := by decide +kernel
theorem dX9_highest_8 : decode cX9_highest 8 = .ok (.if_icmp .ge 37, 3) := by decide +kernel
theorem dX9_highest_11 : decode cX9_highest 11 = .ok (.iload_n 3, 1) := by decide +kernel
theorem dX9_highest_12 : decode cX9_highest 12 = .ok (.iload_n 2, 1) := by decide +kernel
theorem dX9_highest_13 : decode cX9_highest 13 = .ok (.if_icmp .gt 32, 3) := by decide +kernel
theorem dX9_highest_16 : decode cX9_highest 16 = .ok (.aload_n 0, 1) := by decide +kernel
theorem dX9_highest_17 : decode cX9_highest 17 = .ok (.invokevirtual 141, 3) := by decide +kernel
theorem dX9_highest_20 : decode cX9_highest 20 = .ok (.iload_n 3, 1) := by decide +kernel
theorem dX9_highest_21 : decode cX9_highest 21 = .ok (.aload_n 0, 1) := by decide +kernel
theorem dX9_highest_22 : decode cX9_highest 22 = .ok (.getfield 12, 3) := by decide +kernel
theorem dX9_highest_25 : decode cX9_highest 25 = .ok (.aload_n 0, 1) := by decide +kernel
theorem dX9_highest_26 : decode cX9_highest 26 = .ok (.getfield 48, 3) := by decide +kernel
theorem dX9_highest_29 : decode cX9_highest 29 = .ok (.getfield 144, 3) := by decide +kernel
theorem dX9_highest_32 : decode cX9_highest 32 = .ok (.invokevirtual 147, 3) := by decide +kernel
theorem dX9_highest_35 : decode cX9_highest 35 = .ok (.invokestatic 126, 3) := by decide +kernel
theorem dX9_highest_38 : decode cX9_highest 38 = .ok (.istore_n 3, 1) := by decide +kernel
theorem dX9_highest_39 : decode cX9_highest 39 = .ok (.iinc 4 1, 3) := by decide +kernel
theorem dX9_highest_42 : decode cX9_highest 42 = .ok (.goto (-37), 3) := by decide +kernel
theorem dX9_highest_45 : decode cX9_highest 45 = .ok (.iload_n 3, 1) := by decide +kernel
theorem dX9_highest_46 : decode cX9_highest 46 = .ok (.ireturn, 1) := by decide +kernel
theorem dX9_pass_0 : decode cX9_pass 0 = .ok (.iconst 0, 1) := by decide +kernel
theorem dX9_pass_1 : decode cX9_pass 1 = .ok (.istore_n 1, 1) := by decide +kernel
theorem dX9_pass_2 : decode cX9_pass 2 = .ok (.iload_n 1, 1) := by decide +kernel
theorem dX9_pass_3 : decode cX9_pass 3 = .ok (.aload_n 0, 1) := by decide +kernel
theorem dX9_pass_4 : decode cX9_pass 4 = .ok (.getfield 58, 3) := by decide +kernel
theorem dX9_pass_7 : decode cX9_pass 7 = .ok (.getfield 151, 3) := by decide +kernel
theorem dX9_pass_10 : decode cX9_pass 10 = .ok (.if_icmp .ge 39, 3) := by decide +kernel
theorem dX9_pass_13 : decode cX9_pass 13 = .ok (.aload_n 0, 1) := by decide +kernel
theorem dX9_pass_14 : decode cX9_pass 14 = .ok (.getfield 28, 3) := by decide +kernel
theorem dX9_pass_17 : decode cX9_pass 17 = .ok (.iload_n 1, 1) := by decide +kernel
theorem dX9_pass_18 : decode cX9_pass 18 = .ok (.iaload, 1) := by decide +kernel
theorem dX9_pass_19 : decode cX9_pass 19 = .ok (.iconst 2, 1) := by decide +kernel
theorem dX9_pass_20 : decode cX9_pass 20 = .ok (.if_icmp .eq 23, 3) := by decide +kernel
theorem dX9_pass_23 : decode cX9_pass 23 = .ok (.aload_n 0, 1) := by decide +kernel
theorem dX9_pass_24 : decode cX9_pass 24 = .ok (.getfield 58, 3) := by decide +kernel
theorem dX9_pass_27 : decode cX9_pass 27 = .ok (.iload_n 1, 1) := by decide +kernel
theorem dX9_pass_28 : decode cX9_pass 28 = .ok (.aload_n 0, 1) := by decide +kernel
theorem dX9_pass_29 : decode cX9_pass 29 = .ok (.getfield 107, 3) := by decide +kernel
theorem dX9_pass_32 : decode cX9_pass 32 = .ok (.invokevirtual 154, 3) := by decide +kernel
theorem dX9_pass_35 : decode cX9_pass 35 = .ok (.ifCond .eq 8, 3) := by decide +kernel
theorem dX9_pass_38 : decode cX9_pass 38 = .ok (.aload_n 0, 1) := by decide +kernel
theorem dX9_pass_39 : decode cX9_pass 39 = .ok (.iload_n 1, 1) := by decide +kernel
theorem dX9_pass_40 : decode cX9_pass 40 = .ok (.invokevirtual 158, 3) := by decide +kernel
theorem dX9_pass_43 : decode cX9_pass 43 = .ok (.iinc 1 1, 3) := by decide +kernel
theorem dX9_pass_46 : decode cX9_pass 46 = .ok (.goto (-44), 3) := by decide +kernel
theorem dX9_pass_49 : decode cX9_pass 49 = .ok (.aload_n 0, 1) := by decide +kernel
theorem dX9_pass_50 : decode cX9_pass 50 = .ok (.getfield 79, 3) := by decide +kernel
theorem dX9_pass_53 : decode cX9_pass 53 = .ok (.ifCond .eq 17, 3) := by decide +kernel
theorem dX9_pass_56 : decode cX9_pass 56 = .ok (.aload_n 0, 1) := by decide +kernel
theorem dX9_pass_57 : decode cX9_pass 57 = .ok (.getfield 48, 3) := by decide +kernel
theorem dX9_pass_60 : decode cX9_pass 60 = .ok (.getfield 162, 3) := by decide +kernel
theorem dX9_pass_63 : decode cX9_pass 63 = .ok (.ifCond .le 7, 3) := by decide +kernel
theorem dX9_pass_66 : decode cX9_pass 66 = .ok (.aload_n 0, 1) := by decide +kernel
theorem dX9_pass_67 : decode cX9_pass 67 = .ok (.invokevirtual 165, 3) := by decide +kernel
theorem dX9_pass_70 : decode cX9_pass 70 = .ok (.aload_n 0, 1) := by decide +kernel
theorem dX9_pass_71 : decode cX9_pass 71 = .ok (.getfield 12, 3) := by decide +kernel
theorem dX9_pass_74 : decode cX9_pass 74 = .ok (.aload_n 0, 1) := by decide +kernel
theorem dX9_pass_75 : decode cX9_pass 75 = .ok (.getfield 48, 3) := by decide +kernel
theorem dX9_pass_78 : decode cX9_pass 78 = .ok (.getfield 144, 3) := by decide +kernel
theorem dX9_pass_81 : decode cX9_pass 81 = .ok (.iconst 0, 1) := by decide +kernel
theorem dX9_pass_82 : decode cX9_pass 82 = .ok (.aload_n 0, 1) := by decide +kernel
theorem dX9_pass_83 : decode cX9_pass 83 = .ok (.getfield 48, 3) := by decide +kernel
theorem dX9_pass_86 : decode cX9_pass 86 = .ok (.getfield 168, 3) := by decide +kernel
theorem dX9_pass_89 : decode cX9_pass 89 = .ok (.aload_n 0, 1) := by decide +kernel
theorem dX9_pass_90 : decode cX9_pass 90 = .ok (.getfield 72, 3) := by decide +kernel
theorem dX9_pass_93 : decode cX9_pass 93 = .ok (.isub, 1) := by decide +kernel
theorem dX9_pass_94 : decode cX9_pass 94 = .ok (.invokestatic 126, 3) := by decide +kernel
theorem dX9_pass_97 : decode cX9_pass 97 = .ok (.aload_n 0, 1) := by decide +kernel
theorem dX9_pass_98 : decode cX9_pass 98 = .ok (.getfield 38, 3) := by decide +kernel
theorem dX9_pass_101 : decode cX9_pass 101 = .ok (.invokevirtual 171, 3) := by decide +kernel
theorem dX9_pass_104 : decode cX9_pass 104 = .ok (.aload_n 0, 1) := by decide +kernel
theorem dX9_pass_105 : decode cX9_pass 105 = .ok (.getfield 83, 3) := by decide +kernel
theorem dX9_pass_108 : decode cX9_pass 108 = .ok (.ifCond .ne 28, 3) := by decide +kernel
theorem dX9_pass_111 : decode cX9_pass 111 = .ok (.aload_n 0, 1) := by decide +kernel
theorem dX9_pass_112 : decode cX9_pass 112 = .ok (.getfield 18, 3) := by decide +kernel
theorem dX9_pass_115 : decode cX9_pass 115 = .ok (.aload_n 0, 1) := by decide +kernel
theorem dX9_pass_116 : decode cX9_pass 116 = .ok (.getfield 48, 3) := by decide +kernel
theorem dX9_pass_119 : decode cX9_pass 119 = .ok (.getfield 144, 3) := by decide +kernel
theorem dX9_pass_122 : decode cX9_pass 122 = .ok (.aload_n 0, 1) := by decide +kernel
theorem dX9_pass_123 : decode cX9_pass 123 = .ok (.getfield 48, 3) := by decide +kernel
theorem dX9_pass_126 : decode cX9_pass 126 = .ok (.getfield 175, 3) := by decide +kernel
theorem dX9_pass_129 : decode cX9_pass 129 = .ok (.aload_n 0, 1) := by decide +kernel
theorem dX9_pass_130 : decode cX9_pass 130 = .ok (.getfield 38, 3) := by decide +kernel
theorem dX9_pass_133 : decode cX9_pass 133 = .ok (.invokevirtual 171, 3) := by decide +kernel
theorem dX9_pass_136 : decode cX9_pass 136 = .ok (.aload_n 0, 1) := by decide +kernel
theorem dX9_pass_137 : decode cX9_pass 137 = .ok (.getfield 48, 3) := by decide +kernel
theorem dX9_pass_140 : decode cX9_pass 140 = .ok (.getfield 178, 3) := by decide +kernel
theorem dX9_pass_143 : decode cX9_pass 143 = .ok (.ifCond .le 7, 3) := by decide +kernel
theorem dX9_pass_146 : decode cX9_pass 146 = .ok (.aload_n 0, 1) := by decide +kernel
theorem dX9_pass_147 : decode cX9_pass 147 = .ok (.invokevirtual 181, 3) := by decide +kernel
theorem dX9_pass_150 : decode cX9_pass 150 = .ok (.aload_n 0, 1) := by decide +kernel
theorem dX9_pass_151 : decode cX9_pass 151 = .ok (.dup, 1) := by decide +kernel
theorem dX9_pass_152 : decode cX9_pass 152 = .ok (.getfield 107, 3) := by decide +kernel
theorem dX9_pass_155 : decode cX9_pass 155 = .ok (.iconst 1, 1) := by decide +kernel
theorem dX9_pass_156 : decode cX9_pass 156 = .ok (.iadd, 1) := by decide +kernel
theorem dX9_pass_157 : decode cX9_pass 157 = .ok (.putfield 107, 3) := by decide +kernel
theorem dX9_pass_160 : decode cX9_pass 160 = .ok (.return_, 1) := by decide +kernel
theorem dX9_step_0 : decode cX9_step 0 = .ok (.aload_n 0, 1) := by decide +kernel
theorem dX9_step_1 : decode cX9_step 1 = .ok (.getfield 25, 3) := by decide +kernel
theorem dX9_step_4 : decode cX9_step 4 = .ok (.iload_n 1, 1) := by decide +kernel
theorem dX9_step_5 : decode cX9_step 5 = .ok (.dup2, 1) := by decide +kernel
theorem dX9_step_6 : decode cX9_step 6 = .ok (.iaload, 1) := by decide +kernel
theorem dX9_step_7 : decode cX9_step 7 = .ok (.iconst 1, 1) := by decide +kernel
theorem dX9_step_8 : decode cX9_step 8 = .ok (.iadd, 1) := by decide +kernel
theorem dX9_step_9 : decode cX9_step 9 = .ok (.iastore, 1) := by decide +kernel
theorem dX9_step_10 : decode cX9_step 10 = .ok (.aload_n 0, 1) := by decide +kernel
theorem dX9_step_11 : decode cX9_step 11 = .ok (.getfield 25, 3) := by decide +kernel
theorem dX9_step_14 : decode cX9_step 14 = .ok (.iload_n 1, 1) := by decide +kernel
theorem dX9_step_15 : decode cX9_step 15 = .ok (.iaload, 1) := by decide +kernel
theorem dX9_step_16 : decode cX9_step 16 = .ok (.iconst 1, 1) := by decide +kernel
theorem dX9_step_17 : decode cX9_step 17 = .ok (.if_icmp .ne 21, 3) := by decide +kernel
theorem dX9_step_20 : decode cX9_step 20 = .ok (.aload_n 0, 1) := by decide +kernel
theorem dX9_step_21 : decode cX9_step 21 = .ok (.getfield 58, 3) := by decide +kernel
theorem dX9_step_24 : decode cX9_step 24 = .ok (.iload_n 1, 1) := by decide +kernel
theorem dX9_step_25 : decode cX9_step 25 = .ok (.aload_n 0, 1) := by decide +kernel
theorem dX9_step_26 : decode cX9_step 26 = .ok (.getfield 48, 3) := by decide +kernel
theorem dX9_step_29 : decode cX9_step 29 = .ok (.getfield 144, 3) := by decide +kernel
theorem dX9_step_32 : decode cX9_step 32 = .ok (.invokevirtual 184, 3) := by decide +kernel
theorem dX9_step_35 : decode cX9_step 35 = .ok (.goto 19, 3) := by decide +kernel
theorem dX9_step_38 : decode cX9_step 38 = .ok (.aload_n 0, 1) := by decide +kernel
theorem dX9_step_39 : decode cX9_step 39 = .ok (.getfield 21, 3) := by decide +kernel
theorem dX9_step_42 : decode cX9_step 42 = .ok (.iload_n 1, 1) := by decide +kernel
theorem dX9_step_43 : decode cX9_step 43 = .ok (.iaload, 1) := by decide +kernel
theorem dX9_step_44 : decode cX9_step 44 = .ok (.aload_n 0, 1) := by decide +kernel
theorem dX9_step_45 : decode cX9_step 45 = .ok (.getfield 58, 3) := by decide +kernel
theorem dX9_step_48 : decode cX9_step 48 = .ok (.getfield 187, 3) := by decide +kernel
theorem dX9_step_51 : decode cX9_step 51 = .ok (.iload_n 1, 1) := by decide +kernel
theorem dX9_step_52 : decode cX9_step 52 = .ok (.iaload, 1) := by decide +kernel
theorem dX9_step_53 : decode cX9_step 53 = .ok (.iadd, 1) := by decide +kernel
theorem dX9_step_54 : decode cX9_step 54 = .ok (.istore_n 2, 1) := by decide +kernel
theorem dX9_step_55 : decode cX9_step 55 = .ok (.iload_n 2, 1) := by decide +kernel
theorem dX9_step_56 : decode cX9_step 56 = .ok (.ifCond .lt 26, 3) := by decide +kernel
theorem dX9_step_59 : decode cX9_step 59 = .ok (.iload_n 2, 1) := by decide +kernel
theorem dX9_step_60 : decode cX9_step 60 = .ok (.aload_n 0, 1) := by decide +kernel
theorem dX9_step_61 : decode cX9_step 61 = .ok (.getfield 48, 3) := by decide +kernel
theorem dX9_step_64 : decode cX9_step 64 = .ok (.getfield 144, 3) := by decide +kernel
theorem dX9_step_67 : decode cX9_step 67 = .ok (.if_icmp .ge 15, 3) := by decide +kernel
theorem dX9_step_70 : decode cX9_step 70 = .ok (.aload_n 0, 1) := by decide +kernel
theorem dX9_step_71 : decode cX9_step 71 = .ok (.getfield 98, 3) := by decide +kernel
theorem dX9_step_74 : decode cX9_step 74 = .ok (.iload_n 2, 1) := by decide +kernel
theorem dX9_step_75 : decode cX9_step 75 = .ok (.ishr, 1) := by decide +kernel
theorem dX9_step_76 : decode cX9_step 76 = .ok (.iconst 1, 1) := by decide +kernel
theorem dX9_step_77 : decode cX9_step 77 = .ok (.iand, 1) := by decide +kernel
theorem dX9_step_78 : decode cX9_step 78 = .ok (.iconst 1, 1) := by decide +kernel
theorem dX9_step_79 : decode cX9_step 79 = .ok (.if_icmp .ne 11, 3) := by decide +kernel
theorem dX9_step_82 : decode cX9_step 82 = .ok (.aload_n 0, 1) := by decide +kernel
theorem dX9_step_83 : decode cX9_step 83 = .ok (.getfield 28, 3) := by decide +kernel
theorem dX9_step_86 : decode cX9_step 86 = .ok (.iload_n 1, 1) := by decide +kernel
theorem dX9_step_87 : decode cX9_step 87 = .ok (.iconst 2, 1) := by decide +kernel
theorem dX9_step_88 : decode cX9_step 88 = .ok (.iastore, 1) := by decide +kernel
theorem dX9_step_89 : decode cX9_step 89 = .ok (.return_, 1) := by decide +kernel
theorem dX9_step_90 : decode cX9_step 90 = .ok (.aload_n 0, 1) := by decide +kernel
theorem dX9_step_91 : decode cX9_step 91 = .ok (.getfield 21, 3) := by decide +kernel
theorem dX9_step_94 : decode cX9_step 94 = .ok (.iload_n 1, 1) := by decide +kernel
theorem dX9_step_95 : decode cX9_step 95 = .ok (.iload_n 2, 1) := by decide +kernel
theorem dX9_step_96 : decode cX9_step 96 = .ok (.iastore, 1) := by decide +kernel
theorem dX9_step_97 : decode cX9_step 97 = .ok (.aload_n 0, 1) := by decide +kernel
theorem dX9_step_98 : decode cX9_step 98 = .ok (.getfield 28, 3) := by decide +kernel
theorem dX9_step_101 : decode cX9_step 101 = .ok (.iload_n 1, 1) := by decide +kernel
theorem dX9_step_102 : decode cX9_step 102 = .ok (.iconst 1, 1) := by decide +kernel
theorem dX9_step_103 : decode cX9_step 103 = .ok (.iastore, 1) := by decide +kernel
theorem dX9_step_104 : decode cX9_step 104 = .ok (.aload_n 0, 1) := by decide +kernel
theorem dX9_step_105 : decode cX9_step 105 = .ok (.getfield 58, 3) := by decide +kernel
theorem dX9_step_108 : decode cX9_step 108 = .ok (.getfield 190, 3) := by decide +kernel
theorem dX9_step_111 : decode cX9_step 111 = .ok (.iload_n 1, 1) := by decide +kernel
theorem dX9_step_112 : decode cX9_step 112 = .ok (.iaload, 1) := by decide +kernel
theorem dX9_step_113 : decode cX9_step 113 = .ok (.istore_n 3, 1) := by decide +kernel
theorem dX9_step_114 : decode cX9_step 114 = .ok (.aload_n 0, 1) := by decide +kernel
theorem dX9_step_115 : decode cX9_step 115 = .ok (.getfield 25, 3) := by decide +kernel
theorem dX9_step_118 : decode cX9_step 118 = .ok (.iload_n 1, 1) := by decide +kernel
theorem dX9_step_119 : decode cX9_step 119 = .ok (.iaload, 1) := by decide +kernel
theorem dX9_step_120 : decode cX9_step 120 = .ok (.iconst 1, 1) := by decide +kernel
theorem dX9_step_121 : decode cX9_step 121 = .ok (.iand, 1) := by decide +kernel
theorem dX9_step_122 : decode cX9_step 122 = .ok (.istore 4, 2) := by decide +kernel
theorem dX9_step_124 : decode cX9_step 124 = .ok (.aload_n 0, 1) := by decide +kernel
theorem dX9_step_125 : decode cX9_step 125 = .ok (.iload_n 3, 1) := by decide +kernel
theorem dX9_step_126 : decode cX9_step 126 = .ok (.iload_n 2, 1) := by decide +kernel
theorem dX9_step_127 : decode cX9_step 127 = .ok (.iload 4, 2) := by decide +kernel
theorem dX9_step_129 : decode cX9_step 129 = .ok (.invokevirtual 193, 3) := by decide +kernel
theorem dX9_step_132 : decode cX9_step 132 = .ok (.aload_n 0, 1) := by decide +kernel
theorem dX9_step_133 : decode cX9_step 133 = .ok (.getfield 12, 3) := by decide +kernel
theorem dX9_step_136 : decode cX9_step 136 = .ok (.getfield 197, 3) := by decide +kernel
theorem dX9_step_139 : decode cX9_step 139 = .ok (.iload_n 2, 1) := by decide +kernel
theorem dX9_step_140 : decode cX9_step 140 = .ok (.dup2, 1) := by decide +kernel
theorem dX9_step_141 : decode cX9_step 141 = .ok (.iaload, 1) := by decide +kernel
theorem dX9_step_142 : decode cX9_step 142 = .ok (.aload_n 0, 1) := by decide +kernel
theorem dX9_step_143 : decode cX9_step 143 = .ok (.getfield 63, 3) := by decide +kernel
theorem dX9_step_146 : decode cX9_step 146 = .ok (.aload_n 0, 1) := by decide +kernel
theorem dX9_step_147 : decode cX9_step 147 = .ok (.getfield 41, 3) := by decide +kernel
theorem dX9_step_150 : decode cX9_step 150 = .ok (.invokevirtual 199, 3) := by decide +kernel
theorem dX9_step_153 : decode cX9_step 153 = .ok (.iload_n 3, 1) := by decide +kernel
theorem dX9_step_154 : decode cX9_step 154 = .ok (.invokestatic 205, 3) := by decide +kernel
theorem dX9_step_157 : decode cX9_step 157 = .ok (.isub, 1) := by decide +kernel
theorem dX9_step_158 : decode cX9_step 158 = .ok (.iastore, 1) := by decide +kernel
theorem dX9_step_159 : decode cX9_step 159 = .ok (.aload_n 0, 1) := by decide +kernel
theorem dX9_step_160 : decode cX9_step 160 = .ok (.getfield 83, 3) := by decide +kernel
theorem dX9_step_163 : decode cX9_step 163 = .ok (.ifCond .ne 46, 3) := by decide +kernel
theorem dX9_step_166 : decode cX9_step 166 = .ok (.aload_n 0, 1) := by decide +kernel
theorem dX9_step_167 : decode cX9_step 167 = .ok (.getfield 67, 3) := by decide +kernel
theorem dX9_step_170 : decode cX9_step 170 = .ok (.aload_n 0, 1) := by decide +kernel
theorem dX9_step_171 : decode cX9_step 171 = .ok (.getfield 41, 3) := by decide +kernel
theorem dX9_step_174 : decode cX9_step 174 = .ok (.invokevirtual 199, 3) := by decide +kernel
theorem dX9_step_177 : decode cX9_step 177 = .ok (.iconst 0, 1) := by decide +kernel
theorem dX9_step_178 : decode cX9_step 178 = .ok (.invokestatic 205, 3) := by decide +kernel
theorem dX9_step_181 : decode cX9_step 181 = .ok (.istore 5, 2) := by decide +kernel
theorem dX9_step_183 : decode cX9_step 183 = .ok (.aload_n 0, 1) := by decide +kernel
theorem dX9_step_184 : decode cX9_step 184 = .ok (.getfield 18, 3) := by decide +kernel
theorem dX9_step_187 : decode cX9_step 187 = .ok (.getfield 197, 3) := by decide +kernel
theorem dX9_step_190 : decode cX9_step 190 = .ok (.iload_n 2, 1) := by decide +kernel
theorem dX9_step_191 : decode cX9_step 191 = .ok (.dup2, 1) := by decide +kernel
theorem dX9_step_192 : decode cX9_step 192 = .ok (.iaload, 1) := by decide +kernel
theorem dX9_step_193 : decode cX9_step 193 = .ok (.iload 4, 2) := by decide +kernel
theorem dX9_step_195 : decode cX9_step 195 = .ok (.iconst 1, 1) := by decide +kernel
theorem dX9_step_196 : decode cX9_step 196 = .ok (.if_icmp .ne 8, 3) := by decide +kernel
theorem dX9_step_199 : decode cX9_step 199 = .ok (.iload 5, 2) := by decide +kernel
theorem dX9_step_201 : decode cX9_step 201 = .ok (.goto 6, 3) := by decide +kernel
theorem dX9_step_204 : decode cX9_step 204 = .ok (.iload 5, 2) := by decide +kernel
theorem dX9_step_206 : decode cX9_step 206 = .ok (.ineg, 1) := by decide +kernel
theorem dX9_step_207 : decode cX9_step 207 = .ok (.iadd, 1) := by decide +kernel
theorem dX9_step_208 : decode cX9_step 208 = .ok (.iastore, 1) := by decide +kernel
theorem dX9_step_209 : decode cX9_step 209 = .ok (.return_, 1) := by decide +kernel
theorem dX9_force_0 : decode cX9_force 0 = .ok (.lload_n 0, 1) := by decide +kernel
theorem dX9_force_1 : decode cX9_force 1 = .ok (.ldc2_w 209, 3) := by decide +kernel
theorem dX9_force_4 : decode cX9_force 4 = .ok (.lcmp, 1) := by decide +kernel
theorem dX9_force_5 : decode cX9_force 5 = .ok (.ifCond .ne 5, 3) := by decide +kernel
theorem dX9_force_8 : decode cX9_force 8 = .ok (.iload_n 2, 1) := by decide +kernel
theorem dX9_force_9 : decode cX9_force 9 = .ok (.ireturn, 1) := by decide +kernel
theorem dX9_force_10 : decode cX9_force 10 = .ok (.ldc2_w 211, 3) := by decide +kernel
theorem dX9_force_13 : decode cX9_force 13 = .ok (.ldc2_w 213, 3) := by decide +kernel
theorem dX9_force_16 : decode cX9_force 16 = .ok (.lload_n 0, 1) := by decide +kernel
theorem dX9_force_17 : decode cX9_force 17 = .ok (.invokestatic 215, 3) := by decide +kernel
theorem dX9_force_20 : decode cX9_force 20 = .ok (.invokestatic 218, 3) := by decide +kernel
theorem dX9_force_23 : decode cX9_force 23 = .ok (.l2i, 1) := by decide +kernel
theorem dX9_force_24 : decode cX9_force 24 = .ok (.ireturn, 1) := by decide +kernel
theorem dX9_nameValues_0 : decode cX9_nameValues 0 = .ok (.aload_n 0, 1) := by decide +kernel
theorem dX9_nameValues_1 : decode cX9_nameValues 1 = .ok (.getfield 41, 3) := by decide +kernel
theorem dX9_nameValues_4 : decode cX9_nameValues 4 = .ok (.iconst 0, 1) := by decide +kernel
theorem dX9_nameValues_5 : decode cX9_nameValues 5 = .ok (.iload_n 1, 1) := by decide +kernel
theorem dX9_nameValues_6 : decode cX9_nameValues 6 = .ok (.iastore, 1) := by decide +kernel
theorem dX9_nameValues_7 : decode cX9_nameValues 7 = .ok (.aload_n 0, 1) := by decide +kernel
theorem dX9_nameValues_8 : decode cX9_nameValues 8 = .ok (.getfield 41, 3) := by decide +kernel
theorem dX9_nameValues_11 : decode cX9_nameValues 11 = .ok (.iconst 1, 1) := by decide +kernel
theorem dX9_nameValues_12 : decode cX9_nameValues 12 = .ok (.aload_n 0, 1) := by decide +kernel
theorem dX9_nameValues_13 : decode cX9_nameValues 13 = .ok (.getfield 107, 3) := by decide +kernel
theorem dX9_nameValues_16 : decode cX9_nameValues 16 = .ok (.iastore, 1) := by decide +kernel
theorem dX9_nameValues_17 : decode cX9_nameValues 17 = .ok (.aload_n 0, 1) := by decide +kernel
theorem dX9_nameValues_18 : decode cX9_nameValues 18 = .ok (.getfield 41, 3) := by decide +kernel
theorem dX9_nameValues_21 : decode cX9_nameValues 21 = .ok (.iconst 2, 1) := by decide +kernel
theorem dX9_nameValues_22 : decode cX9_nameValues 22 = .ok (.iload_n 2, 1) := by decide +kernel
theorem dX9_nameValues_23 : decode cX9_nameValues 23 = .ok (.iastore, 1) := by decide +kernel
theorem dX9_nameValues_24 : decode cX9_nameValues 24 = .ok (.aload_n 0, 1) := by decide +kernel
theorem dX9_nameValues_25 : decode cX9_nameValues 25 = .ok (.getfield 41, 3) := by decide +kernel
theorem dX9_nameValues_28 : decode cX9_nameValues 28 = .ok (.iconst 3, 1) := by decide +kernel
theorem dX9_nameValues_29 : decode cX9_nameValues 29 = .ok (.aload_n 0, 1) := by decide +kernel
theorem dX9_nameValues_30 : decode cX9_nameValues 30 = .ok (.getfield 12, 3) := by decide +kernel
theorem dX9_nameValues_33 : decode cX9_nameValues 33 = .ok (.getfield 220, 3) := by decide +kernel
theorem dX9_nameValues_36 : decode cX9_nameValues 36 = .ok (.iload_n 2, 1) := by decide +kernel
theorem dX9_nameValues_37 : decode cX9_nameValues 37 = .ok (.iaload, 1) := by decide +kernel
theorem dX9_nameValues_38 : decode cX9_nameValues 38 = .ok (.iastore, 1) := by decide +kernel
theorem dX9_nameValues_39 : decode cX9_nameValues 39 = .ok (.aload_n 0, 1) := by decide +kernel
theorem dX9_nameValues_40 : decode cX9_nameValues 40 = .ok (.getfield 41, 3) := by decide +kernel
theorem dX9_nameValues_43 : decode cX9_nameValues 43 = .ok (.iconst 4, 1) := by decide +kernel
theorem dX9_nameValues_44 : decode cX9_nameValues 44 = .ok (.iload_n 3, 1) := by decide +kernel
theorem dX9_nameValues_45 : decode cX9_nameValues 45 = .ok (.iastore, 1) := by decide +kernel
theorem dX9_nameValues_46 : decode cX9_nameValues 46 = .ok (.aload_n 0, 1) := by decide +kernel
theorem dX9_nameValues_47 : decode cX9_nameValues 47 = .ok (.getfield 41, 3) := by decide +kernel
theorem dX9_nameValues_50 : decode cX9_nameValues 50 = .ok (.iconst 5, 1) := by decide +kernel
theorem dX9_nameValues_51 : decode cX9_nameValues 51 = .ok (.aload_n 0, 1) := by decide +kernel
theorem dX9_nameValues_52 : decode cX9_nameValues 52 = .ok (.getfield 72, 3) := by decide +kernel
theorem dX9_nameValues_55 : decode cX9_nameValues 55 = .ok (.iastore, 1) := by decide +kernel
theorem dX9_nameValues_56 : decode cX9_nameValues 56 = .ok (.return_, 1) := by decide +kernel
theorem dX9_gust_0 : decode cX9_gust 0 = .ok (.iconst 0, 1) := by decide +kernel
theorem dX9_gust_1 : decode cX9_gust 1 = .ok (.istore_n 1, 1) := by decide +kernel
theorem dX9_gust_2 : decode cX9_gust 2 = .ok (.iload_n 1, 1) := by decide +kernel
theorem dX9_gust_3 : decode cX9_gust 3 = .ok (.aload_n 0, 1) := by decide +kernel
theorem dX9_gust_4 : decode cX9_gust 4 = .ok (.getfield 48, 3) := by decide +kernel
theorem dX9_gust_7 : decode cX9_gust 7 = .ok (.getfield 144, 3) := by decide +kernel
theorem dX9_gust_10 : decode cX9_gust 10 = .ok (.if_icmp .ge 70, 3) := by decide +kernel
theorem dX9_gust_13 : decode cX9_gust 13 = .ok (.aload_n 0, 1) := by decide +kernel
theorem dX9_gust_14 : decode cX9_gust 14 = .ok (.aload_n 0, 1) := by decide +kernel
theorem dX9_gust_15 : decode cX9_gust 15 = .ok (.getfield 76, 3) := by decide +kernel
theorem dX9_gust_18 : decode cX9_gust 18 = .ok (.i2l, 1) := by decide +kernel
theorem dX9_gust_19 : decode cX9_gust 19 = .ok (.ldc2_w 223, 3) := by decide +kernel
theorem dX9_gust_22 : decode cX9_gust 22 = .ok (.lmul, 1) := by decide +kernel
theorem dX9_gust_23 : decode cX9_gust 23 = .ok (.ldc2_w 225, 3) := by decide +kernel
theorem dX9_gust_26 : decode cX9_gust 26 = .ok (.ladd, 1) := by decide +kernel
theorem dX9_gust_27 : decode cX9_gust 27 = .ok (.ldc2_w 227, 3) := by decide +kernel
theorem dX9_gust_30 : decode cX9_gust 30 = .ok (.land, 1) := by decide +kernel
theorem dX9_gust_31 : decode cX9_gust 31 = .ok (.l2i, 1) := by decide +kernel
theorem dX9_gust_32 : decode cX9_gust 32 = .ok (.putfield 76, 3) := by decide +kernel
theorem dX9_gust_35 : decode cX9_gust 35 = .ok (.aload_n 0, 1) := by decide +kernel
theorem dX9_gust_36 : decode cX9_gust 36 = .ok (.getfield 18, 3) := by decide +kernel
theorem dX9_gust_39 : decode cX9_gust 39 = .ok (.getfield 197, 3) := by decide +kernel
theorem dX9_gust_42 : decode cX9_gust 42 = .ok (.iload_n 1, 1) := by decide +kernel
theorem dX9_gust_43 : decode cX9_gust 43 = .ok (.dup2, 1) := by decide +kernel
theorem dX9_gust_44 : decode cX9_gust 44 = .ok (.iaload, 1) := by decide +kernel
theorem dX9_gust_45 : decode cX9_gust 45 = .ok (.aload_n 0, 1) := by decide +kernel
theorem dX9_gust_46 : decode cX9_gust 46 = .ok (.getfield 76, 3) := by decide +kernel
theorem dX9_gust_49 : decode cX9_gust 49 = .ok (.ldc 229, 2) := by decide +kernel
theorem dX9_gust_51 : decode cX9_gust 51 = .ok (.idiv, 1) := by decide +kernel
theorem dX9_gust_52 : decode cX9_gust 52 = .ok (.iconst 2, 1) := by decide +kernel
theorem dX9_gust_53 : decode cX9_gust 53 = .ok (.aload_n 0, 1) := by decide +kernel
theorem dX9_gust_54 : decode cX9_gust 54 = .ok (.getfield 48, 3) := by decide +kernel
theorem dX9_gust_57 : decode cX9_gust 57 = .ok (.getfield 162, 3) := by decide +kernel
theorem dX9_gust_60 : decode cX9_gust 60 = .ok (.imul, 1) := by decide +kernel
theorem dX9_gust_61 : decode cX9_gust 61 = .ok (.iconst 1, 1) := by decide +kernel
theorem dX9_gust_62 : decode cX9_gust 62 = .ok (.iadd, 1) := by decide +kernel
theorem dX9_gust_63 : decode cX9_gust 63 = .ok (.irem, 1) := by decide +kernel
theorem dX9_gust_64 : decode cX9_gust 64 = .ok (.aload_n 0, 1) := by decide +kernel
theorem dX9_gust_65 : decode cX9_gust 65 = .ok (.getfield 48, 3) := by decide +kernel
theorem dX9_gust_68 : decode cX9_gust 68 = .ok (.getfield 162, 3) := by decide +kernel
theorem dX9_gust_71 : decode cX9_gust 71 = .ok (.isub, 1) := by decide +kernel
theorem dX9_gust_72 : decode cX9_gust 72 = .ok (.iadd, 1) := by decide +kernel
theorem dX9_gust_73 : decode cX9_gust 73 = .ok (.iastore, 1) := by decide +kernel
theorem dX9_gust_74 : decode cX9_gust 74 = .ok (.iinc 1 1, 3) := by decide +kernel
theorem dX9_gust_77 : decode cX9_gust 77 = .ok (.goto (-75), 3) := by decide +kernel
theorem dX9_gust_80 : decode cX9_gust 80 = .ok (.return_, 1) := by decide +kernel
theorem dX9_losePlanks_0 : decode cX9_losePlanks 0 = .ok (.iconst 0, 1) := by decide +kernel
theorem dX9_losePlanks_1 : decode cX9_losePlanks 1 = .ok (.istore_n 1, 1) := by decide +kernel
theorem dX9_losePlanks_2 : decode cX9_losePlanks 2 = .ok (.iload_n 1, 1) := by decide +kernel
theorem dX9_losePlanks_3 : decode cX9_losePlanks 3 = .ok (.aload_n 0, 1) := by decide +kernel
theorem dX9_losePlanks_4 : decode cX9_losePlanks 4 = .ok (.getfield 48, 3) := by decide +kernel
theorem dX9_losePlanks_7 : decode cX9_losePlanks 7 = .ok (.getfield 144, 3) := by decide +kernel
theorem dX9_losePlanks_10 : decode cX9_losePlanks 10 = .ok (.if_icmp .ge 43, 3) := by decide +kernel
theorem dX9_losePlanks_13 : decode cX9_losePlanks 13 = .ok (.aload_n 0, 1) := by decide +kernel
theorem dX9_losePlanks_14 : decode cX9_losePlanks 14 = .ok (.getfield 12, 3) := by decide +kernel
theorem dX9_losePlanks_17 : decode cX9_losePlanks 17 = .ok (.getfield 220, 3) := by decide +kernel
theorem dX9_losePlanks_20 : decode cX9_losePlanks 20 = .ok (.iload_n 1, 1) := by decide +kernel
theorem dX9_losePlanks_21 : decode cX9_losePlanks 21 = .ok (.iaload, 1) := by decide +kernel
theorem dX9_losePlanks_22 : decode cX9_losePlanks 22 = .ok (.invokestatic 230, 3) := by decide +kernel
theorem dX9_losePlanks_25 : decode cX9_losePlanks 25 = .ok (.aload_n 0, 1) := by decide +kernel
theorem dX9_losePlanks_26 : decode cX9_losePlanks 26 = .ok (.getfield 48, 3) := by decide +kernel
theorem dX9_losePlanks_29 : decode cX9_losePlanks 29 = .ok (.getfield 178, 3) := by decide +kernel
theorem dX9_losePlanks_32 : decode cX9_losePlanks 32 = .ok (.if_icmp .le 15, 3) := by decide +kernel
theorem dX9_losePlanks_35 : decode cX9_losePlanks 35 = .ok (.aload_n 0, 1) := by decide +kernel
theorem dX9_losePlanks_36 : decode cX9_losePlanks 36 = .ok (.dup, 1) := by decide +kernel
theorem dX9_losePlanks_37 : decode cX9_losePlanks 37 = .ok (.getfield 98, 3) := by decide +kernel
theorem dX9_losePlanks_40 : decode cX9_losePlanks 40 = .ok (.iconst 1, 1) := by decide +kernel
theorem dX9_losePlanks_41 : decode cX9_losePlanks 41 = .ok (.iload_n 1, 1) := by decide +kernel
theorem dX9_losePlanks_42 : decode cX9_losePlanks 42 = .ok (.ishl, 1) := by decide +kernel
theorem dX9_losePlanks_43 : decode cX9_losePlanks 43 = .ok (.ior, 1) := by decide +kernel
theorem dX9_losePlanks_44 : decode cX9_losePlanks 44 = .ok (.putfield 98, 3) := by decide +kernel
theorem dX9_losePlanks_47 : decode cX9_losePlanks 47 = .ok (.iinc 1 1, 3) := by decide +kernel
theorem dX9_losePlanks_50 : decode cX9_losePlanks 50 = .ok (.goto (-48), 3) := by decide +kernel
theorem dX9_losePlanks_53 : decode cX9_losePlanks 53 = .ok (.return_, 1) := by decide +kernel
theorem dX9_walkersAt_0 : decode cX9_walkersAt 0 = .ok (.iconst 0, 1) := by decide +kernel
theorem dX9_walkersAt_1 : decode cX9_walkersAt 1 = .ok (.istore_n 2, 1) := by decide +kernel
theorem dX9_walkersAt_2 : decode cX9_walkersAt 2 = .ok (.iconst 0, 1) := by decide +kernel
theorem dX9_walkersAt_3 : decode cX9_walkersAt 3 = .ok (.istore_n 3, 1) := by decide +kernel
theorem dX9_walkersAt_4 : decode cX9_walkersAt 4 = .ok (.iload_n 3, 1) := by decide +kernel
theorem dX9_walkersAt_5 : decode cX9_walkersAt 5 = .ok (.aload_n 0, 1) := by decide +kernel
theorem dX9_walkersAt_6 : decode cX9_walkersAt 6 = .ok (.getfield 58, 3) := by decide +kernel
theorem dX9_walkersAt_9 : decode cX9_walkersAt 9 = .ok (.getfield 151, 3) := by decide +kernel
theorem dX9_walkersAt_12 : decode cX9_walkersAt 12 = .ok (.if_icmp .ge 37, 3) := by decide +kernel
theorem dX9_walkersAt_15 : decode cX9_walkersAt 15 = .ok (.iload_n 2, 1) := by decide +kernel
theorem dX9_walkersAt_16 : decode cX9_walkersAt 16 = .ok (.aload_n 0, 1) := by decide +kernel
theorem dX9_walkersAt_17 : decode cX9_walkersAt 17 = .ok (.getfield 28, 3) := by decide +kernel
theorem dX9_walkersAt_20 : decode cX9_walkersAt 20 = .ok (.iload_n 3, 1) := by decide +kernel
theorem dX9_walkersAt_21 : decode cX9_walkersAt 21 = .ok (.iaload, 1) := by decide +kernel
theorem dX9_walkersAt_22 : decode cX9_walkersAt 22 = .ok (.iconst 1, 1) := by decide +kernel
theorem dX9_walkersAt_23 : decode cX9_walkersAt 23 = .ok (.if_icmp .ne 17, 3) := by decide +kernel
theorem dX9_walkersAt_26 : decode cX9_walkersAt 26 = .ok (.aload_n 0, 1) := by decide +kernel
theorem dX9_walkersAt_27 : decode cX9_walkersAt 27 = .ok (.getfield 21, 3) := by decide +kernel
theorem dX9_walkersAt_30 : decode cX9_walkersAt 30 = .ok (.iload_n 3, 1) := by decide +kernel
theorem dX9_walkersAt_31 : decode cX9_walkersAt 31 = .ok (.iaload, 1) := by decide +kernel
theorem dX9_walkersAt_32 : decode cX9_walkersAt 32 = .ok (.iload_n 1, 1) := by decide +kernel
theorem dX9_walkersAt_33 : decode cX9_walkersAt 33 = .ok (.if_icmp .ne 7, 3) := by decide +kernel
theorem dX9_walkersAt_36 : decode cX9_walkersAt 36 = .ok (.iconst 1, 1) := by decide +kernel
theorem dX9_walkersAt_37 : decode cX9_walkersAt 37 = .ok (.goto 4, 3) := by decide +kernel
theorem dX9_walkersAt_40 : decode cX9_walkersAt 40 = .ok (.iconst 0, 1) := by decide +kernel
theorem dX9_walkersAt_41 : decode cX9_walkersAt 41 = .ok (.iadd, 1) := by decide +kernel
theorem dX9_walkersAt_42 : decode cX9_walkersAt 42 = .ok (.istore_n 2, 1) := by decide +kernel
theorem dX9_walkersAt_43 : decode cX9_walkersAt 43 = .ok (.iinc 3 1, 3) := by decide +kernel
theorem dX9_walkersAt_46 : decode cX9_walkersAt 46 = .ok (.goto (-42), 3) := by decide +kernel
theorem dX9_walkersAt_49 : decode cX9_walkersAt 49 = .ok (.iload_n 2, 1) := by decide +kernel
theorem dX9_walkersAt_50 : decode cX9_walkersAt 50 = .ok (.ireturn, 1) := by decide +kernel
theorem dX10_init_0 : decode cX10_init 0 = .ok (.aload_n 0, 1) := by decide +kernel
theorem dX10_init_1 : decode cX10_init 1 = .ok (.invokespecial 3, 3) := by decide +kernel
theorem dX10_init_4 : decode cX10_init 4 = .ok (.aload_n 0, 1) := by decide +kernel
theorem dX10_init_5 : decode cX10_init 5 = .ok (.bipush 12, 2) := by decide +kernel
theorem dX10_init_7 : decode cX10_init 7 = .ok (.newarray .int, 2) := by decide +kernel
theorem dX10_init_9 : decode cX10_init 9 = .ok (.putfield 9, 3) := by decide +kernel
theorem dX10_init_12 : decode cX10_init 12 = .ok (.aload_n 0, 1) := by decide +kernel
theorem dX10_init_13 : decode cX10_init 13 = .ok (.bipush 12, 2) := by decide +kernel
theorem dX10_init_15 : decode cX10_init 15 = .ok (.newarray .int, 2) := by decide +kernel
theorem dX10_init_17 : decode cX10_init 17 = .ok (.putfield 15, 3) := by decide +kernel
theorem dX10_init_20 : decode cX10_init 20 = .ok (.aload_n 0, 1) := by decide +kernel
theorem dX10_init_21 : decode cX10_init 21 = .ok (.bipush 12, 2) := by decide +kernel
theorem dX10_init_23 : decode cX10_init 23 = .ok (.newarray .int, 2) := by decide +kernel
theorem dX10_init_25 : decode cX10_init 25 = .ok (.putfield 18, 3) := by decide +kernel
theorem dX10_init_28 : decode cX10_init 28 = .ok (.return_, 1) := by decide +kernel
theorem dX10_rest_0 : decode cX10_rest 0 = .ok (.aload_n 0, 1) := by decide +kernel
theorem dX10_rest_1 : decode cX10_rest 1 = .ok (.getfield 9, 3) := by decide +kernel
theorem dX10_rest_4 : decode cX10_rest 4 = .ok (.iconst 0, 1) := by decide +kernel
theorem dX10_rest_5 : decode cX10_rest 5 = .ok (.invokestatic 21, 3) := by decide +kernel
theorem dX10_rest_8 : decode cX10_rest 8 = .ok (.aload_n 0, 1) := by decide +kernel
theorem dX10_rest_9 : decode cX10_rest 9 = .ok (.getfield 15, 3) := by decide +kernel
theorem dX10_rest_12 : decode cX10_rest 12 = .ok (.iconst 0, 1) := by decide +kernel
theorem dX10_rest_13 : decode cX10_rest 13 = .ok (.invokestatic 21, 3) := by decide +kernel
theorem dX10_rest_16 : decode cX10_rest 16 = .ok (.aload_n 0, 1) := by decide +kernel
theorem dX10_rest_17 : decode cX10_rest 17 = .ok (.getfield 18, 3) := by decide +kernel
theorem dX10_rest_20 : decode cX10_rest 20 = .ok (.iconst 0, 1) := by decide +kernel
theorem dX10_rest_21 : decode cX10_rest 21 = .ok (.invokestatic 21, 3) := by decide +kernel
theorem dX10_rest_24 : decode cX10_rest 24 = .ok (.return_, 1) := by decide +kernel
theorem dX10_copy_0 : decode cX10_copy 0 = .ok (.aload_n 1, 1) := by decide +kernel
theorem dX10_copy_1 : decode cX10_copy 1 = .ok (.getfield 9, 3) := by decide +kernel
theorem dX10_copy_4 : decode cX10_copy 4 = .ok (.iconst 0, 1) := by decide +kernel
theorem dX10_copy_5 : decode cX10_copy 5 = .ok (.aload_n 0, 1) := by decide +kernel
theorem dX10_copy_6 : decode cX10_copy 6 = .ok (.getfield 9, 3) := by decide +kernel
theorem dX10_copy_9 : decode cX10_copy 9 = .ok (.iconst 0, 1) := by decide +kernel
theorem dX10_copy_10 : decode cX10_copy 10 = .ok (.bipush 12, 2) := by decide +kernel
theorem dX10_copy_12 : decode cX10_copy 12 = .ok (.invokestatic 27, 3) := by decide +kernel
theorem dX10_copy_15 : decode cX10_copy 15 = .ok (.aload_n 1, 1) := by decide +kernel
theorem dX10_copy_16 : decode cX10_copy 16 = .ok (.getfield 15, 3) := by decide +kernel
theorem dX10_copy_19 : decode cX10_copy 19 = .ok (.iconst 0, 1) := by decide +kernel
theorem dX10_copy_20 : decode cX10_copy 20 = .ok (.aload_n 0, 1) := by decide +kernel
theorem dX10_copy_21 : decode cX10_copy 21 = .ok (.getfield 15, 3) := by decide +kernel
theorem dX10_copy_24 : decode cX10_copy 24 = .ok (.iconst 0, 1) := by decide +kernel
theorem dX10_copy_25 : decode cX10_copy 25 = .ok (.bipush 12, 2) := by decide +kernel
theorem dX10_copy_27 : decode cX10_copy 27 = .ok (.invokestatic 27, 3) := by decide +kernel
theorem dX10_copy_30 : decode cX10_copy 30 = .ok (.aload_n 1, 1) := by decide +kernel
theorem dX10_copy_31 : decode cX10_copy 31 = .ok (.getfield 18, 3) := by decide +kernel
theorem dX10_copy_34 : decode cX10_copy 34 = .ok (.iconst 0, 1) := by decide +kernel
theorem dX10_copy_35 : decode cX10_copy 35 = .ok (.aload_n 0, 1) := by decide +kernel
theorem dX10_copy_36 : decode cX10_copy 36 = .ok (.getfield 18, 3) := by decide +kernel
theorem dX10_copy_39 : decode cX10_copy 39 = .ok (.iconst 0, 1) := by decide +kernel
theorem dX10_copy_40 : decode cX10_copy 40 = .ok (.bipush 12, 2) := by decide +kernel
theorem dX10_copy_42 : decode cX10_copy 42 = .ok (.invokestatic 27, 3) := by decide +kernel
theorem dX10_copy_45 : decode cX10_copy 45 = .ok (.return_, 1) := by decide +kernel
theorem dX10_move_0 : decode cX10_move 0 = .ok (.iconst 0, 1) := by decide +kernel
theorem dX10_move_1 : decode cX10_move 1 = .ok (.istore 4, 2) := by decide +kernel
theorem dX10_move_3 : decode cX10_move 3 = .ok (.iload 4, 2) := by decide +kernel
theorem dX10_move_5 : decode cX10_move 5 = .ok (.iload_n 1, 1) := by decide +kernel
theorem dX10_move_6 : decode cX10_move 6 = .ok (.if_icmp .ge 119, 3) := by decide +kernel
theorem dX10_move_9 : decode cX10_move 9 = .ok (.iload 4, 2) := by decide +kernel
theorem dX10_move_11 : decode cX10_move 11 = .ok (.ifCond .le 15, 3) := by decide +kernel
theorem dX10_move_14 : decode cX10_move 14 = .ok (.aload_n 0, 1) := by decide +kernel
theorem dX10_move_15 : decode cX10_move 15 = .ok (.getfield 9, 3) := by decide +kernel
theorem dX10_move_18 : decode cX10_move 18 = .ok (.iload 4, 2) := by decide +kernel
theorem dX10_move_20 : decode cX10_move 20 = .ok (.iconst 1, 1) := by decide +kernel
theorem dX10_move_21 : decode cX10_move 21 = .ok (.isub, 1) := by decide +kernel
theorem dX10_move_22 : decode cX10_move 22 = .ok (.iaload, 1) := by decide +kernel
theorem dX10_move_23 : decode cX10_move 23 = .ok (.goto 4, 3) := by decide +kernel
theorem dX10_move_26 : decode cX10_move 26 = .ok (.iconst 0, 1) := by decide +kernel
theorem dX10_move_27 : decode cX10_move 27 = .ok (.iload 4, 2) := by decide +kernel
theorem dX10_move_29 : decode cX10_move 29 = .ok (.iconst 1, 1) := by decide +kernel
theorem dX10_move_30 : decode cX10_move 30 = .ok (.iadd, 1) := by decide +kernel
theorem dX10_move_31 : decode cX10_move 31 = .ok (.iload_n 1, 1) := by decide +kernel
theorem dX10_move_32 : decode cX10_move 32 = .ok (.if_icmp .ge 15, 3) := by decide +kernel
theorem dX10_move_35 : decode cX10_move 35 = .ok (.aload_n 0, 1) := by decide +kernel
theorem dX10_move_36 : decode cX10_move 36 = .ok (.getfield 9, 3) := by decide +kernel
theorem dX10_move_39 : decode cX10_move 39 = .ok (.iload 4, 2) := by decide +kernel
theorem dX10_move_41 : decode cX10_move 41 = .ok (.iconst 1, 1) := by decide +kernel
theorem dX10_move_42 : decode cX10_move 42 = .ok (.iadd, 1) := by decide +kernel
theorem dX10_move_43 : decode cX10_move 43 = .ok (.iaload, 1) := by decide +kernel
theorem dX10_move_44 : decode cX10_move 44 = .ok (.goto 4, 3) := by decide +kernel
theorem dX10_move_47 : decode cX10_move 47 = .ok (.iconst 0, 1) := by decide +kernel
theorem dX10_move_48 : decode cX10_move 48 = .ok (.iadd, 1) := by decide +kernel
theorem dX10_move_49 : decode cX10_move 49 = .ok (.istore 5, 2) := by decide +kernel
theorem dX10_move_51 : decode cX10_move 51 = .ok (.aload_n 0, 1) := by decide +kernel
theorem dX10_move_52 : decode cX10_move 52 = .ok (.getfield 15, 3) := by decide +kernel
theorem dX10_move_55 : decode cX10_move 55 = .ok (.iload 4, 2) := by decide +kernel
theorem dX10_move_57 : decode cX10_move 57 = .ok (.iaload, 1) := by decide +kernel
theorem dX10_move_58 : decode cX10_move 58 = .ok (.iload_n 2, 1) := by decide +kernel
theorem dX10_move_59 : decode cX10_move 59 = .ok (.iload 5, 2) := by decide +kernel
theorem dX10_move_61 : decode cX10_move 61 = .ok (.iconst 2, 1) := by decide +kernel
theorem dX10_move_62 : decode cX10_move 62 = .ok (.aload_n 0, 1) := by decide +kernel
theorem dX10_move_63 : decode cX10_move 63 = .ok (.getfield 9, 3) := by decide +kernel
theorem dX10_move_66 : decode cX10_move 66 = .ok (.iload 4, 2) := by decide +kernel
theorem dX10_move_68 : decode cX10_move 68 = .ok (.iaload, 1) := by decide +kernel
theorem dX10_move_69 : decode cX10_move 69 = .ok (.imul, 1) := by decide +kernel
theorem dX10_move_70 : decode cX10_move 70 = .ok (.isub, 1) := by decide +kernel
theorem dX10_move_71 : decode cX10_move 71 = .ok (.imul, 1) := by decide +kernel
theorem dX10_move_72 : decode cX10_move 72 = .ok (.bipush 16, 2) := by decide +kernel
theorem dX10_move_74 : decode cX10_move 74 = .ok (.idiv, 1) := by decide +kernel
theorem dX10_move_75 : decode cX10_move 75 = .ok (.iadd, 1) := by decide +kernel
theorem dX10_move_76 : decode cX10_move 76 = .ok (.aload_n 0, 1) := by decide +kernel
theorem dX10_move_77 : decode cX10_move 77 = .ok (.getfield 18, 3) := by decide +kernel
theorem dX10_move_80 : decode cX10_move 80 = .ok (.iload 4, 2) := by decide +kernel
theorem dX10_move_82 : decode cX10_move 82 = .ok (.iaload, 1) := by decide +kernel
theorem dX10_move_83 : decode cX10_move 83 = .ok (.iadd, 1) := by decide +kernel
theorem dX10_move_84 : decode cX10_move 84 = .ok (.istore 6, 2) := by decide +kernel
theorem dX10_move_86 : decode cX10_move 86 = .ok (.aload_n 0, 1) := by decide +kernel
theorem dX10_move_87 : decode cX10_move 87 = .ok (.getfield 15, 3) := by decide +kernel
theorem dX10_move_90 : decode cX10_move 90 = .ok (.iload 4, 2) := by decide +kernel
theorem dX10_move_92 : decode cX10_move 92 = .ok (.iload 6, 2) := by decide +kernel
theorem dX10_move_94 : decode cX10_move 94 = .ok (.iload 6, 2) := by decide +kernel
theorem dX10_move_96 : decode cX10_move 96 = .ok (.aload_n 3, 1) := by decide +kernel
theorem dX10_move_97 : decode cX10_move 97 = .ok (.iload 4, 2) := by decide +kernel
theorem dX10_move_99 : decode cX10_move 99 = .ok (.iaload, 1) := by decide +kernel
theorem dX10_move_100 : decode cX10_move 100 = .ok (.imul, 1) := by decide +kernel
theorem dX10_move_101 : decode cX10_move 101 = .ok (.bipush 100, 2) := by decide +kernel
theorem dX10_move_103 : decode cX10_move 103 = .ok (.idiv, 1) := by decide +kernel
theorem dX10_move_104 : decode cX10_move 104 = .ok (.isub, 1) := by decide +kernel
theorem dX10_move_105 : decode cX10_move 105 = .ok (.ldc 33, 2) := by decide +kernel
theorem dX10_move_107 : decode cX10_move 107 = .ok (.invokestatic 34, 3) := by decide +kernel
theorem dX10_move_110 : decode cX10_move 110 = .ok (.iastore, 1) := by decide +kernel
theorem dX10_move_111 : decode cX10_move 111 = .ok (.aload_n 0, 1) := by decide +kernel
theorem dX10_move_112 : decode cX10_move 112 = .ok (.getfield 18, 3) := by decide +kernel
theorem dX10_move_115 : decode cX10_move 115 = .ok (.iload 4, 2) := by decide +kernel
theorem dX10_move_117 : decode cX10_move 117 = .ok (.iconst 0, 1) := by decide +kernel
theorem dX10_move_118 : decode cX10_move 118 = .ok (.iastore, 1) := by decide +kernel
theorem dX10_move_119 : decode cX10_move 119 = .ok (.iinc 4 1, 3) := by decide +kernel
theorem dX10_move_122 : decode cX10_move 122 = .ok (.goto (-119), 3) := by decide +kernel
theorem dX10_move_125 : decode cX10_move 125 = .ok (.iconst 0, 1) := by decide +kernel
theorem dX10_move_126 : decode cX10_move 126 = .ok (.istore 4, 2) := by decide +kernel
theorem dX10_move_128 : decode cX10_move 128 = .ok (.iload 4, 2) := by decide +kernel
theorem dX10_move_130 : decode cX10_move 130 = .ok (.iload_n 1, 1) := by decide +kernel
theorem dX10_move_131 : decode cX10_move 131 = .ok (.if_icmp .ge 36, 3) := by decide +kernel
theorem dX10_move_134 : decode cX10_move 134 = .ok (.aload_n 0, 1) := by decide +kernel
theorem dX10_move_135 : decode cX10_move 135 = .ok (.getfield 9, 3) := by decide +kernel
theorem dX10_move_138 : decode cX10_move 138 = .ok (.iload 4, 2) := by decide +kernel
theorem dX10_move_140 : decode cX10_move 140 = .ok (.aload_n 0, 1) := by decide +kernel
theorem dX10_move_141 : decode cX10_move 141 = .ok (.getfield 9, 3) := by decide +kernel
theorem dX10_move_144 : decode cX10_move 144 = .ok (.iload 4, 2) := by decide +kernel
theorem dX10_move_146 : decode cX10_move 146 = .ok (.iaload, 1) := by decide +kernel
theorem dX10_move_147 : decode cX10_move 147 = .ok (.aload_n 0, 1) := by decide +kernel
theorem dX10_move_148 : decode cX10_move 148 = .ok (.getfield 15, 3) := by decide +kernel
theorem dX10_move_151 : decode cX10_move 151 = .ok (.iload 4, 2) := by decide +kernel
theorem dX10_move_153 : decode cX10_move 153 = .ok (.iaload, 1) := by decide +kernel
theorem dX10_move_154 : decode cX10_move 154 = .ok (.iadd, 1) := by decide +kernel
theorem dX10_move_155 : decode cX10_move 155 = .ok (.ldc 33, 2) := by decide +kernel
theorem dX10_move_157 : decode cX10_move 157 = .ok (.invokestatic 34, 3) := by decide +kernel
theorem dX10_move_160 : decode cX10_move 160 = .ok (.iastore, 1) := by decide +kernel
theorem dX10_move_161 : decode cX10_move 161 = .ok (.iinc 4 1, 3) := by decide +kernel
theorem dX10_move_164 : decode cX10_move 164 = .ok (.goto (-36), 3) := by decide +kernel
theorem dX10_move_167 : decode cX10_move 167 = .ok (.return_, 1) := by decide +kernel
theorem dX10_greatest_0 : decode cX10_greatest 0 = .ok (.iconst 0, 1) := by decide +kernel
theorem dX10_greatest_1 : decode cX10_greatest 1 = .ok (.istore_n 2, 1) := by decide +kernel
theorem dX10_greatest_2 : decode cX10_greatest 2 = .ok (.iconst 0, 1) := by decide +kernel
theorem dX10_greatest_3 : decode cX10_greatest 3 = .ok (.istore_n 3, 1) := by decide +kernel
theorem dX10_greatest_4 : decode cX10_greatest 4 = .ok (.iload_n 3, 1) := by decide +kernel
theorem dX10_greatest_5 : decode cX10_greatest 5 = .ok (.iload_n 1, 1) := by decide +kernel
theorem dX10_greatest_6 : decode cX10_greatest 6 = .ok (.if_icmp .ge 23, 3) := by decide +kernel
theorem dX10_greatest_9 : decode cX10_greatest 9 = .ok (.iload_n 2, 1) := by decide +kernel
theorem dX10_greatest_10 : decode cX10_greatest 10 = .ok (.aload_n 0, 1) := by decide +kernel
theorem dX10_greatest_11 : decode cX10_greatest 11 = .ok (.getfield 9, 3) := by decide +kernel
theorem dX10_greatest_14 : decode cX10_greatest 14 = .ok (.iload_n 3, 1) := by decide +kernel
theorem dX10_greatest_15 : decode cX10_greatest 15 = .ok (.iaload, 1) := by decide +kernel
theorem dX10_greatest_16 : decode cX10_greatest 16 = .ok (.invokestatic 38, 3) := by decide +kernel
theorem dX10_greatest_19 : decode cX10_greatest 19 = .ok (.invokestatic 44, 3) := by decide +kernel
theorem dX10_greatest_22 : decode cX10_greatest 22 = .ok (.istore_n 2, 1) := by decide +kernel
theorem dX10_greatest_23 : decode cX10_greatest 23 = .ok (.iinc 3 1, 3) := by decide +kernel
theorem dX10_greatest_26 : decode cX10_greatest 26 = .ok (.goto (-22), 3) := by decide +kernel
theorem dX10_greatest_29 : decode cX10_greatest 29 = .ok (.iload_n 2, 1) := by decide +kernel
theorem dX10_greatest_30 : decode cX10_greatest 30 = .ok (.ireturn, 1) := by decide +kernel
theorem dJ6_bitCount_0f7a4_0 : decode cJ6_bitCount_0f7a4 0 = .ok (.iload_n 0, 1) := by decide +kernel
theorem dJ6_bitCount_0f7a4_1 : decode cJ6_bitCount_0f7a4 1 = .ok (.iload_n 0, 1) := by decide +kernel
theorem dJ6_bitCount_0f7a4_2 : decode cJ6_bitCount_0f7a4 2 = .ok (.iconst 1, 1) := by decide +kernel
theorem dJ6_bitCount_0f7a4_3 : decode cJ6_bitCount_0f7a4 3 = .ok (.iushr, 1) := by decide +kernel
theorem dJ6_bitCount_0f7a4_4 : decode cJ6_bitCount_0f7a4 4 = .ok (.ldc_w 265, 3) := by decide +kernel
theorem dJ6_bitCount_0f7a4_7 : decode cJ6_bitCount_0f7a4 7 = .ok (.iand, 1) := by decide +kernel
theorem dJ6_bitCount_0f7a4_8 : decode cJ6_bitCount_0f7a4 8 = .ok (.isub, 1) := by decide +kernel
theorem dJ6_bitCount_0f7a4_9 : decode cJ6_bitCount_0f7a4 9 = .ok (.istore_n 0, 1) := by decide +kernel
theorem dJ6_bitCount_0f7a4_10 : decode cJ6_bitCount_0f7a4 10 = .ok (.iload_n 0, 1) := by decide +kernel
theorem dJ6_bitCount_0f7a4_11 : decode cJ6_bitCount_0f7a4 11 = .ok (.ldc_w 266, 3) := by decide +kernel
theorem dJ6_bitCount_0f7a4_14 : decode cJ6_bitCount_0f7a4 14 = .ok (.iand, 1) := by decide +kernel
theorem dJ6_bitCount_0f7a4_15 : decode cJ6_bitCount_0f7a4 15 = .ok (.iload_n 0, 1) := by decide +kernel
theorem dJ6_bitCount_0f7a4_16 : decode cJ6_bitCount_0f7a4 16 = .ok (.iconst 2, 1) := by decide +kernel
theorem dJ6_bitCount_0f7a4_17 : decode cJ6_bitCount_0f7a4 17 = .ok (.iushr, 1) := by decide +kernel
theorem dJ6_bitCount_0f7a4_18 : decode cJ6_bitCount_0f7a4 18 = .ok (.ldc_w 266, 3) := by decide +kernel
theorem dJ6_bitCount_0f7a4_21 : decode cJ6_bitCount_0f7a4 21 = .ok (.iand, 1) := by decide +kernel
theorem dJ6_bitCount_0f7a4_22 : decode cJ6_bitCount_0f7a4 22 = .ok (.iadd, 1) := by decide +kernel
theorem dJ6_bitCount_0f7a4_23 : decode cJ6_bitCount_0f7a4 23 = .ok (.istore_n 0, 1) := by decide +kernel
theorem dJ6_bitCount_0f7a4_24 : decode cJ6_bitCount_0f7a4 24 = .ok (.iload_n 0, 1) := by decide +kernel
theorem dJ6_bitCount_0f7a4_25 : decode cJ6_bitCount_0f7a4 25 = .ok (.iload_n 0, 1) := by decide +kernel
theorem dJ6_bitCount_0f7a4_26 : decode cJ6_bitCount_0f7a4 26 = .ok (.iconst 4, 1) := by decide +kernel
theorem dJ6_bitCount_0f7a4_27 : decode cJ6_bitCount_0f7a4 27 = .ok (.iushr, 1) := by decide +kernel
theorem dJ6_bitCount_0f7a4_28 : decode cJ6_bitCount_0f7a4 28 = .ok (.iadd, 1) := by decide +kernel
theorem dJ6_bitCount_0f7a4_29 : decode cJ6_bitCount_0f7a4 29 = .ok (.ldc_w 267, 3) := by decide +kernel
theorem dJ6_bitCount_0f7a4_32 : decode cJ6_bitCount_0f7a4 32 = .ok (.iand, 1) := by decide +kernel
theorem dJ6_bitCount_0f7a4_33 : decode cJ6_bitCount_0f7a4 33 = .ok (.istore_n 0, 1) := by decide +kernel
theorem dJ6_bitCount_0f7a4_34 : decode cJ6_bitCount_0f7a4 34 = .ok (.iload_n 0, 1) := by decide +kernel
theorem dJ6_bitCount_0f7a4_35 : decode cJ6_bitCount_0f7a4 35 = .ok (.iload_n 0, 1) := by decide +kernel
theorem dJ6_bitCount_0f7a4_36 : decode cJ6_bitCount_0f7a4 36 = .ok (.bipush 8, 2) := by decide +kernel
theorem dJ6_bitCount_0f7a4_38 : decode cJ6_bitCount_0f7a4 38 = .ok (.iushr, 1) := by decide +kernel
theorem dJ6_bitCount_0f7a4_39 : decode cJ6_bitCount_0f7a4 39 = .ok (.iadd, 1) := by decide +kernel
theorem dJ6_bitCount_0f7a4_40 : decode cJ6_bitCount_0f7a4 40 = .ok (.istore_n 0, 1) := by decide +kernel
theorem dJ6_bitCount_0f7a4_41 : decode cJ6_bitCount_0f7a4 41 = .ok (.iload_n 0, 1) := by decide +kernel
theorem dJ6_bitCount_0f7a4_42 : decode cJ6_bitCount_0f7a4 42 = .ok (.iload_n 0, 1) := by decide +kernel
theorem dJ6_bitCount_0f7a4_43 : decode cJ6_bitCount_0f7a4 43 = .ok (.bipush 16, 2) := by decide +kernel
theorem dJ6_bitCount_0f7a4_45 : decode cJ6_bitCount_0f7a4 45 = .ok (.iushr, 1) := by decide +kernel
theorem dJ6_bitCount_0f7a4_46 : decode cJ6_bitCount_0f7a4 46 = .ok (.iadd, 1) := by decide +kernel
theorem dJ6_bitCount_0f7a4_47 : decode cJ6_bitCount_0f7a4 47 = .ok (.istore_n 0, 1) := by decide +kernel
theorem dJ6_bitCount_0f7a4_48 : decode cJ6_bitCount_0f7a4 48 = .ok (.iload_n 0, 1) := by decide +kernel
theorem dJ6_bitCount_0f7a4_49 : decode cJ6_bitCount_0f7a4 49 = .ok (.bipush 63, 2) := by decide +kernel
theorem dJ6_bitCount_0f7a4_51 : decode cJ6_bitCount_0f7a4 51 = .ok (.iand, 1) := by decide +kernel
theorem dJ6_bitCount_0f7a4_52 : decode cJ6_bitCount_0f7a4 52 = .ok (.ireturn, 1) := by decide +kernel
theorem dJ13_bitCount_95d88_0 : decode cJ13_bitCount_95d88 0 = .ok (.lload_n 0, 1) := by decide +kernel
theorem dJ13_bitCount_95d88_1 : decode cJ13_bitCount_95d88 1 = .ok (.lload_n 0, 1) := by decide +kernel
theorem dJ13_bitCount_95d88_2 : decode cJ13_bitCount_95d88 2 = .ok (.iconst 1, 1) := by decide +kernel
theorem dJ13_bitCount_95d88_3 : decode cJ13_bitCount_95d88 3 = .ok (.lushr, 1) := by decide +kernel
theorem dJ13_bitCount_95d88_4 : decode cJ13_bitCount_95d88 4 = .ok (.ldc2_w 314, 3) := by decide +kernel
theorem dJ13_bitCount_95d88_7 : decode cJ13_bitCount_95d88 7 = .ok (.land, 1) := by decide +kernel
theorem dJ13_bitCount_95d88_8 : decode cJ13_bitCount_95d88 8 = .ok (.lsub, 1) := by decide +kernel
theorem dJ13_bitCount_95d88_9 : decode cJ13_bitCount_95d88 9 = .ok (.lstore_n 0, 1) := by decide +kernel
theorem dJ13_bitCount_95d88_10 : decode cJ13_bitCount_95d88 10 = .ok (.lload_n 0, 1) := by decide +kernel
theorem dJ13_bitCount_95d88_11 : decode cJ13_bitCount_95d88 11 = .ok (.ldc2_w 316, 3) := by decide +kernel
theorem dJ13_bitCount_95d88_14 : decode cJ13_bitCount_95d88 14 = .ok (.land, 1) := by decide +kernel
theorem dJ13_bitCount_95d88_15 : decode cJ13_bitCount_95d88 15 = .ok (.lload_n 0, 1) := by decide +kernel
theorem dJ13_bitCount_95d88_16 : decode cJ13_bitCount_95d88 16 = .ok (.iconst 2, 1) := by decide +kernel
theorem dJ13_bitCount_95d88_17 : decode cJ13_bitCount_95d88 17 = .ok (.lushr, 1) := by decide +kernel
theorem dJ13_bitCount_95d88_18 : decode cJ13_bitCount_95d88 18 = .ok (.ldc2_w 316, 3) := by decide +kernel
theorem dJ13_bitCount_95d88_21 : decode cJ13_bitCount_95d88 21 = .ok (.land, 1) := by decide +kernel
theorem dJ13_bitCount_95d88_22 : decode cJ13_bitCount_95d88 22 = .ok (.ladd, 1) := by decide +kernel
theorem dJ13_bitCount_95d88_23 : decode cJ13_bitCount_95d88 23 = .ok (.lstore_n 0, 1) := by decide +kernel
theorem dJ13_bitCount_95d88_24 : decode cJ13_bitCount_95d88 24 = .ok (.lload_n 0, 1) := by decide +kernel
theorem dJ13_bitCount_95d88_25 : decode cJ13_bitCount_95d88 25 = .ok (.lload_n 0, 1) := by decide +kernel
theorem dJ13_bitCount_95d88_26 : decode cJ13_bitCount_95d88 26 = .ok (.iconst 4, 1) := by decide +kernel
theorem dJ13_bitCount_95d88_27 : decode cJ13_bitCount_95d88 27 = .ok (.lushr, 1) := by decide +kernel
theorem dJ13_bitCount_95d88_28 : decode cJ13_bitCount_95d88 28 = .ok (.ladd, 1) := by decide +kernel
theorem dJ13_bitCount_95d88_29 : decode cJ13_bitCount_95d88 29 = .ok (.ldc2_w 318, 3) := by decide +kernel
theorem dJ13_bitCount_95d88_32 : decode cJ13_bitCount_95d88 32 = .ok (.land, 1) := by decide +kernel
theorem dJ13_bitCount_95d88_33 : decode cJ13_bitCount_95d88 33 = .ok (.lstore_n 0, 1) := by decide +kernel
theorem dJ13_bitCount_95d88_34 : decode cJ13_bitCount_95d88 34 = .ok (.lload_n 0, 1) := by decide +kernel
theorem dJ13_bitCount_95d88_35 : decode cJ13_bitCount_95d88 35 = .ok (.lload_n 0, 1) := by decide +kernel
theorem dJ13_bitCount_95d88_36 : decode cJ13_bitCount_95d88 36 = .ok (.bipush 8, 2) := by decide +kernel
theorem dJ13_bitCount_95d88_38 : decode cJ13_bitCount_95d88 38 = .ok (.lushr, 1) := by decide +kernel
theorem dJ13_bitCount_95d88_39 : decode cJ13_bitCount_95d88 39 = .ok (.ladd, 1) := by decide +kernel
theorem dJ13_bitCount_95d88_40 : decode cJ13_bitCount_95d88 40 = .ok (.lstore_n 0, 1) := by decide +kernel
theorem dJ13_bitCount_95d88_41 : decode cJ13_bitCount_95d88 41 = .ok (.lload_n 0, 1) := by decide +kernel
theorem dJ13_bitCount_95d88_42 : decode cJ13_bitCount_95d88 42 = .ok (.lload_n 0, 1) := by decide +kernel
theorem dJ13_bitCount_95d88_43 : decode cJ13_bitCount_95d88 43 = .ok (.bipush 16, 2) := by decide +kernel
theorem dJ13_bitCount_95d88_45 : decode cJ13_bitCount_95d88 45 = .ok (.lushr, 1) := by decide +kernel
theorem dJ13_bitCount_95d88_46 : decode cJ13_bitCount_95d88 46 = .ok (.ladd, 1) := by decide +kernel
theorem dJ13_bitCount_95d88_47 : decode cJ13_bitCount_95d88 47 = .ok (.lstore_n 0, 1) := by decide +kernel
theorem dJ13_bitCount_95d88_48 : decode cJ13_bitCount_95d88 48 = .ok (.lload_n 0, 1) := by decide +kernel
theorem dJ13_bitCount_95d88_49 : decode cJ13_bitCount_95d88 49 = .ok (.lload_n 0, 1) := by decide +kernel
theorem dJ13_bitCount_95d88_50 : decode cJ13_bitCount_95d88 50 = .ok (.bipush 32, 2) := by decide +kernel
theorem dJ13_bitCount_95d88_52 : decode cJ13_bitCount_95d88 52 = .ok (.lushr, 1) := by decide +kernel
theorem dJ13_bitCount_95d88_53 : decode cJ13_bitCount_95d88 53 = .ok (.ladd, 1) := by decide +kernel
theorem dJ13_bitCount_95d88_54 : decode cJ13_bitCount_95d88 54 = .ok (.lstore_n 0, 1) := by decide +kernel
theorem dJ13_bitCount_95d88_55 : decode cJ13_bitCount_95d88 55 = .ok (.lload_n 0, 1) := by decide +kernel
theorem dJ13_bitCount_95d88_56 : decode cJ13_bitCount_95d88 56 = .ok (.l2i, 1) := by decide +kernel
theorem dJ13_bitCount_95d88_57 : decode cJ13_bitCount_95d88 57 = .ok (.bipush 127, 2) := by decide +kernel
theorem dJ13_bitCount_95d88_59 : decode cJ13_bitCount_95d88 59 = .ok (.iand, 1) := by decide +kernel
theorem dJ13_bitCount_95d88_60 : decode cJ13_bitCount_95d88 60 = .ok (.ireturn, 1) := by decide +kernel
theorem dJ9_floorMod_7cf53_0 : decode cJ9_floorMod_7cf53 0 = .ok (.iload_n 0, 1) := by decide +kernel
theorem dJ9_floorMod_7cf53_1 : decode cJ9_floorMod_7cf53 1 = .ok (.iload_n 1, 1) := by decide +kernel
theorem dJ9_floorMod_7cf53_2 : decode cJ9_floorMod_7cf53 2 = .ok (.irem, 1) := by decide +kernel
theorem dJ9_floorMod_7cf53_3 : decode cJ9_floorMod_7cf53 3 = .ok (.istore_n 2, 1) := by decide +kernel
theorem dJ9_floorMod_7cf53_4 : decode cJ9_floorMod_7cf53 4 = .ok (.iload_n 0, 1) := by decide +kernel
theorem dJ9_floorMod_7cf53_5 : decode cJ9_floorMod_7cf53 5 = .ok (.iload_n 1, 1) := by decide +kernel
theorem dJ9_floorMod_7cf53_6 : decode cJ9_floorMod_7cf53 6 = .ok (.ixor, 1) := by decide +kernel
theorem dJ9_floorMod_7cf53_7 : decode cJ9_floorMod_7cf53 7 = .ok (.ifCond .ge 11, 3) := by decide +kernel
theorem dJ9_floorMod_7cf53_10 : decode cJ9_floorMod_7cf53 10 = .ok (.iload_n 2, 1) := by decide +kernel
theorem dJ9_floorMod_7cf53_11 : decode cJ9_floorMod_7cf53 11 = .ok (.ifCond .eq 7, 3) := by decide +kernel
theorem dJ9_floorMod_7cf53_14 : decode cJ9_floorMod_7cf53 14 = .ok (.iload_n 2, 1) := by decide +kernel
theorem dJ9_floorMod_7cf53_15 : decode cJ9_floorMod_7cf53 15 = .ok (.iload_n 1, 1) := by decide +kernel
theorem dJ9_floorMod_7cf53_16 : decode cJ9_floorMod_7cf53 16 = .ok (.iadd, 1) := by decide +kernel
theorem dJ9_floorMod_7cf53_17 : decode cJ9_floorMod_7cf53 17 = .ok (.ireturn, 1) := by decide +kernel
theorem dJ9_floorMod_7cf53_18 : decode cJ9_floorMod_7cf53 18 = .ok (.iload_n 2, 1) := by decide +kernel
theorem dJ9_floorMod_7cf53_19 : decode cJ9_floorMod_7cf53 19 = .ok (.ireturn, 1) := by decide +kernel
theorem dJ9_abs_0f7a4_0 : decode cJ9_abs_0f7a4 0 = .ok (.iload_n 0, 1) := by decide +kernel
theorem dJ9_abs_0f7a4_1 : decode cJ9_abs_0f7a4 1 = .ok (.ifCond .ge 8, 3) := by decide +kernel
theorem dJ9_abs_0f7a4_4 : decode cJ9_abs_0f7a4 4 = .ok (.iload_n 0, 1) := by decide +kernel
theorem dJ9_abs_0f7a4_5 : decode cJ9_abs_0f7a4 5 = .ok (.ineg, 1) := by decide +kernel
theorem dJ9_abs_0f7a4_6 : decode cJ9_abs_0f7a4 6 = .ok (.goto 4, 3) := by decide +kernel
theorem dJ9_abs_0f7a4_9 : decode cJ9_abs_0f7a4 9 = .ok (.iload_n 0, 1) := by decide +kernel
theorem dJ9_abs_0f7a4_10 : decode cJ9_abs_0f7a4 10 = .ok (.ireturn, 1) := by decide +kernel
theorem dJ9_abs_067f4_0 : decode cJ9_abs_067f4 0 = .ok (.lload_n 0, 1) := by decide +kernel
theorem dJ9_abs_067f4_1 : decode cJ9_abs_067f4 1 = .ok (.lconst 0, 1) := by decide +kernel
theorem dJ9_abs_067f4_2 : decode cJ9_abs_067f4 2 = .ok (.lcmp, 1) := by decide +kernel
theorem dJ9_abs_067f4_3 : decode cJ9_abs_067f4 3 = .ok (.ifCond .ge 8, 3) := by decide +kernel
theorem dJ9_abs_067f4_6 : decode cJ9_abs_067f4 6 = .ok (.lload_n 0, 1) := by decide +kernel
theorem dJ9_abs_067f4_7 : decode cJ9_abs_067f4 7 = .ok (.lneg, 1) := by decide +kernel
theorem dJ9_abs_067f4_8 : decode cJ9_abs_067f4 8 = .ok (.goto 4, 3) := by decide +kernel
theorem dJ9_abs_067f4_11 : decode cJ9_abs_067f4 11 = .ok (.lload_n 0, 1) := by decide +kernel
theorem dJ9_abs_067f4_12 : decode cJ9_abs_067f4 12 = .ok (.lreturn, 1) := by decide +kernel
theorem dJ9_max_7cf53_0 : decode cJ9_max_7cf53 0 = .ok (.iload_n 0, 1) := by decide +kernel
theorem dJ9_max_7cf53_1 : decode cJ9_max_7cf53 1 = .ok (.iload_n 1, 1) := by decide +kernel
theorem dJ9_max_7cf53_2 : decode cJ9_max_7cf53 2 = .ok (.if_icmp .lt 7, 3) := by decide +kernel
theorem dJ9_max_7cf53_5 : decode cJ9_max_7cf53 5 = .ok (.iload_n 0, 1) := by decide +kernel
theorem dJ9_max_7cf53_6 : decode cJ9_max_7cf53 6 = .ok (.goto 4, 3) := by decide +kernel
theorem dJ9_max_7cf53_9 : decode cJ9_max_7cf53 9 = .ok (.iload_n 1, 1) := by decide +kernel
theorem dJ9_max_7cf53_10 : decode cJ9_max_7cf53 10 = .ok (.ireturn, 1) := by decide +kernel
theorem dJ9_max_f86c9_0 : decode cJ9_max_f86c9 0 = .ok (.lload_n 0, 1) := by decide +kernel
theorem dJ9_max_f86c9_1 : decode cJ9_max_f86c9 1 = .ok (.lload_n 2, 1) := by decide +kernel
theorem dJ9_max_f86c9_2 : decode cJ9_max_f86c9 2 = .ok (.lcmp, 1) := by decide +kernel
theorem dJ9_max_f86c9_3 : decode cJ9_max_f86c9 3 = .ok (.ifCond .lt 7, 3) := by decide +kernel
theorem dJ9_max_f86c9_6 : decode cJ9_max_f86c9 6 = .ok (.lload_n 0, 1) := by decide +kernel
theorem dJ9_max_f86c9_7 : decode cJ9_max_f86c9 7 = .ok (.goto 4, 3) := by decide +kernel
theorem dJ9_max_f86c9_10 : decode cJ9_max_f86c9 10 = .ok (.lload_n 2, 1) := by decide +kernel
theorem dJ9_max_f86c9_11 : decode cJ9_max_f86c9 11 = .ok (.lreturn, 1) := by decide +kernel
theorem dJ9_min_7cf53_0 : decode cJ9_min_7cf53 0 = .ok (.iload_n 0, 1) := by decide +kernel
theorem dJ9_min_7cf53_1 : decode cJ9_min_7cf53 1 = .ok (.iload_n 1, 1) := by decide +kernel
theorem dJ9_min_7cf53_2 : decode cJ9_min_7cf53 2 = .ok (.if_icmp .gt 7, 3) := by decide +kernel
theorem dJ9_min_7cf53_5 : decode cJ9_min_7cf53 5 = .ok (.iload_n 0, 1) := by decide +kernel
theorem dJ9_min_7cf53_6 : decode cJ9_min_7cf53 6 = .ok (.goto 4, 3) := by decide +kernel
theorem dJ9_min_7cf53_9 : decode cJ9_min_7cf53 9 = .ok (.iload_n 1, 1) := by decide +kernel
theorem dJ9_min_7cf53_10 : decode cJ9_min_7cf53 10 = .ok (.ireturn, 1) := by decide +kernel
theorem dJ9_min_f86c9_0 : decode cJ9_min_f86c9 0 = .ok (.lload_n 0, 1) := by decide +kernel
theorem dJ9_min_f86c9_1 : decode cJ9_min_f86c9 1 = .ok (.lload_n 2, 1) := by decide +kernel
theorem dJ9_min_f86c9_2 : decode cJ9_min_f86c9 2 = .ok (.lcmp, 1) := by decide +kernel
theorem dJ9_min_f86c9_3 : decode cJ9_min_f86c9 3 = .ok (.ifCond .gt 7, 3) := by decide +kernel
theorem dJ9_min_f86c9_6 : decode cJ9_min_f86c9 6 = .ok (.lload_n 0, 1) := by decide +kernel
theorem dJ9_min_f86c9_7 : decode cJ9_min_f86c9 7 = .ok (.goto 4, 3) := by decide +kernel
theorem dJ9_min_f86c9_10 : decode cJ9_min_f86c9 10 = .ok (.lload_n 2, 1) := by decide +kernel
theorem dJ9_min_f86c9_11 : decode cJ9_min_f86c9 11 = .ok (.lreturn, 1) := by decide +kernel
theorem dJ0_length_8abf5_0 : decode cJ0_length_8abf5 0 = .ok (.aload_n 0, 1) := by decide +kernel
theorem dJ0_length_8abf5_1 : decode cJ0_length_8abf5 1 = .ok (.getfield 9, 3) := by decide +kernel
theorem dJ0_length_8abf5_4 : decode cJ0_length_8abf5 4 = .ok (.arraylength, 1) := by decide +kernel
theorem dJ0_length_8abf5_5 : decode cJ0_length_8abf5 5 = .ok (.aload_n 0, 1) := by decide +kernel
theorem dJ0_length_8abf5_6 : decode cJ0_length_8abf5 6 = .ok (.invokevirtual 335, 3) := by decide +kernel
theorem dJ0_length_8abf5_9 : decode cJ0_length_8abf5 9 = .ok (.ishr, 1) := by decide +kernel
theorem dJ0_length_8abf5_10 : decode cJ0_length_8abf5 10 = .ok (.ireturn, 1) := by decide +kernel
theorem dJ0_charAt_5068e_0 : decode cJ0_charAt_5068e 0 = .ok (.aload_n 0, 1) := by decide +kernel
theorem dJ0_charAt_5068e_1 : decode cJ0_charAt_5068e 1 = .ok (.invokevirtual 492, 3) := by decide +kernel
theorem dJ0_charAt_5068e_4 : decode cJ0_charAt_5068e 4 = .ok (.ifCond .eq 12, 3) := by decide +kernel
theorem dJ0_charAt_5068e_7 : decode cJ0_charAt_5068e 7 = .ok (.aload_n 0, 1) := by decide +kernel
theorem dJ0_charAt_5068e_8 : decode cJ0_charAt_5068e 8 = .ok (.getfield 9, 3) := by decide +kernel
theorem dJ0_charAt_5068e_11 : decode cJ0_charAt_5068e 11 = .ok (.iload_n 1, 1) := by decide +kernel
theorem dJ0_charAt_5068e_12 : decode cJ0_charAt_5068e 12 = .ok (.invokestatic 495, 3) := by decide +kernel
theorem dJ0_charAt_5068e_15 : decode cJ0_charAt_5068e 15 = .ok (.ireturn, 1) := by decide +kernel
theorem dJ0_charAt_5068e_16 : decode cJ0_charAt_5068e 16 = .ok (.aload_n 0, 1) := by decide +kernel
theorem dJ0_charAt_5068e_17 : decode cJ0_charAt_5068e 17 = .ok (.getfield 9, 3) := by decide +kernel
theorem dJ0_charAt_5068e_20 : decode cJ0_charAt_5068e 20 = .ok (.iload_n 1, 1) := by decide +kernel
theorem dJ0_charAt_5068e_21 : decode cJ0_charAt_5068e 21 = .ok (.invokestatic 498, 3) := by decide +kernel
theorem dJ0_charAt_5068e_24 : decode cJ0_charAt_5068e 24 = .ok (.ireturn, 1) := by decide +kernel
theorem dJ0_coder_7d493_0 : decode cJ0_coder_7d493 0 = .ok (.getstatic 38, 3) := by decide +kernel
theorem dJ0_coder_7d493_3 : decode cJ0_coder_7d493 3 = .ok (.ifCond .eq 10, 3) := by decide +kernel
theorem dJ0_coder_7d493_6 : decode cJ0_coder_7d493 6 = .ok (.aload_n 0, 1) := by decide +kernel
theorem dJ0_coder_7d493_7 : decode cJ0_coder_7d493 7 = .ok (.getfield 15, 3) := by decide +kernel
theorem dJ0_coder_7d493_10 : decode cJ0_coder_7d493 10 = .ok (.goto 4, 3) := by decide +kernel
theorem dJ0_coder_7d493_13 : decode cJ0_coder_7d493 13 = .ok (.iconst 1, 1) := by decide +kernel
theorem dJ0_coder_7d493_14 : decode cJ0_coder_7d493 14 = .ok (.ireturn, 1) := by decide +kernel
theorem dJ0_isLatin1_aae02_0 : decode cJ0_isLatin1_aae02 0 = .ok (.getstatic 38, 3) := by decide +kernel
theorem dJ0_isLatin1_aae02_3 : decode cJ0_isLatin1_aae02 3 = .ok (.ifCond .eq 14, 3) := by decide +kernel
theorem dJ0_isLatin1_aae02_6 : decode cJ0_isLatin1_aae02 6 = .ok (.aload_n 0, 1) := by decide +kernel
theorem dJ0_isLatin1_aae02_7 : decode cJ0_isLatin1_aae02 7 = .ok (.getfield 15, 3) := by decide +kernel
theorem dJ0_isLatin1_aae02_10 : decode cJ0_isLatin1_aae02 10 = .ok (.ifCond .ne 7, 3) := by decide +kernel
theorem dJ0_isLatin1_aae02_13 : decode cJ0_isLatin1_aae02 13 = .ok (.iconst 1, 1) := by decide +kernel
theorem dJ0_isLatin1_aae02_14 : decode cJ0_isLatin1_aae02 14 = .ok (.goto 4, 3) := by decide +kernel
theorem dJ0_isLatin1_aae02_17 : decode cJ0_isLatin1_aae02 17 = .ok (.iconst 0, 1) := by decide +kernel
theorem dJ0_isLatin1_aae02_18 : decode cJ0_isLatin1_aae02 18 = .ok (.ireturn, 1) := by decide +kernel
theorem dJ0_checkIndex_df160_0 : decode cJ0_checkIndex_df160 0 = .ok (.iload_n 0, 1) := by decide +kernel
theorem dJ0_checkIndex_df160_1 : decode cJ0_checkIndex_df160 1 = .ok (.iload_n 1, 1) := by decide +kernel
theorem dJ0_checkIndex_df160_2 : decode cJ0_checkIndex_df160 2 = .ok (.getstatic 1053, 3) := by decide +kernel
theorem dJ0_checkIndex_df160_5 : decode cJ0_checkIndex_df160 5 = .ok (.invokestatic 1059, 3) := by decide +kernel
theorem dJ0_checkIndex_df160_8 : decode cJ0_checkIndex_df160 8 = .ok (.pop, 1) := by decide +kernel
theorem dJ0_checkIndex_df160_9 : decode cJ0_checkIndex_df160 9 = .ok (.return_, 1) := by decide +kernel
theorem dJ1_charAt_3b067_0 : decode cJ1_charAt_3b067 0 = .ok (.iload_n 1, 1) := by decide +kernel
theorem dJ1_charAt_3b067_1 : decode cJ1_charAt_3b067 1 = .ok (.aload_n 0, 1) := by decide +kernel
theorem dJ1_charAt_3b067_2 : decode cJ1_charAt_3b067 2 = .ok (.arraylength, 1) := by decide +kernel
theorem dJ1_charAt_3b067_3 : decode cJ1_charAt_3b067 3 = .ok (.invokestatic 9, 3) := by decide +kernel
theorem dJ1_charAt_3b067_6 : decode cJ1_charAt_3b067 6 = .ok (.aload_n 0, 1) := by decide +kernel
theorem dJ1_charAt_3b067_7 : decode cJ1_charAt_3b067 7 = .ok (.iload_n 1, 1) := by decide +kernel
theorem dJ1_charAt_3b067_8 : decode cJ1_charAt_3b067 8 = .ok (.baload, 1) := by decide +kernel
theorem dJ1_charAt_3b067_9 : decode cJ1_charAt_3b067 9 = .ok (.sipush 255, 3) := by decide +kernel
theorem dJ1_charAt_3b067_12 : decode cJ1_charAt_3b067 12 = .ok (.iand, 1) := by decide +kernel
theorem dJ1_charAt_3b067_13 : decode cJ1_charAt_3b067 13 = .ok (.i2c, 1) := by decide +kernel
theorem dJ1_charAt_3b067_14 : decode cJ1_charAt_3b067 14 = .ok (.ireturn, 1) := by decide +kernel
theorem dJ2_getChar_3b067_0 : decode cJ2_getChar_3b067 0 = .ok (.getstatic 44, 3) := by decide +kernel
theorem dJ2_getChar_3b067_3 : decode cJ2_getChar_3b067 3 = .ok (.ifCond .ne 25, 3) := by decide +kernel
theorem dJ2_getChar_3b067_6 : decode cJ2_getChar_3b067 6 = .ok (.iload_n 1, 1) := by decide +kernel
theorem dJ2_getChar_3b067_7 : decode cJ2_getChar_3b067 7 = .ok (.ifCond .lt 11, 3) := by decide +kernel
theorem dJ2_getChar_3b067_10 : decode cJ2_getChar_3b067 10 = .ok (.iload_n 1, 1) := by decide +kernel
theorem dJ2_getChar_3b067_11 : decode cJ2_getChar_3b067 11 = .ok (.aload_n 0, 1) := by decide +kernel
theorem dJ2_getChar_3b067_12 : decode cJ2_getChar_3b067 12 = .ok (.invokestatic 48, 3) := by decide +kernel
theorem dJ2_getChar_3b067_15 : decode cJ2_getChar_3b067 15 = .ok (.if_icmp .lt 13, 3) := by decide +kernel
theorem dJ2_getChar_3b067_18 : decode cJ2_getChar_3b067 18 = .ok (.new 52, 3) := by decide +kernel
theorem dJ2_getChar_3b067_21 : decode cJ2_getChar_3b067 21 = .ok (.dup, 1) := by decide +kernel
theorem dJ2_getChar_3b067_22 : decode cJ2_getChar_3b067 22 = .ok (.ldc 54, 2) := by decide +kernel
theorem dJ2_getChar_3b067_24 : decode cJ2_getChar_3b067 24 = .ok (.invokespecial 56, 3) := by decide +kernel
theorem dJ2_getChar_3b067_27 : decode cJ2_getChar_3b067 27 = .ok (.athrow, 1) := by decide +kernel
theorem dJ2_getChar_3b067_28 : decode cJ2_getChar_3b067 28 = .ok (.iload_n 1, 1) := by decide +kernel
theorem dJ2_getChar_3b067_29 : decode cJ2_getChar_3b067 29 = .ok (.iconst 1, 1) := by decide +kernel
theorem dJ2_getChar_3b067_30 : decode cJ2_getChar_3b067 30 = .ok (.ishl, 1) := by decide +kernel
theorem dJ2_getChar_3b067_31 : decode cJ2_getChar_3b067 31 = .ok (.istore_n 1, 1) := by decide +kernel
theorem dJ2_getChar_3b067_32 : decode cJ2_getChar_3b067 32 = .ok (.aload_n 0, 1) := by decide +kernel
theorem dJ2_getChar_3b067_33 : decode cJ2_getChar_3b067 33 = .ok (.iload_n 1, 1) := by decide +kernel
theorem dJ2_getChar_3b067_34 : decode cJ2_getChar_3b067 34 = .ok (.iinc 1 1, 3) := by decide +kernel
theorem dJ2_getChar_3b067_37 : decode cJ2_getChar_3b067 37 = .ok (.baload, 1) := by decide +kernel
theorem dJ2_getChar_3b067_38 : decode cJ2_getChar_3b067 38 = .ok (.sipush 255, 3) := by decide +kernel
theorem dJ2_getChar_3b067_41 : decode cJ2_getChar_3b067 41 = .ok (.iand, 1) := by decide +kernel
theorem dJ2_getChar_3b067_42 : decode cJ2_getChar_3b067 42 = .ok (.getstatic 59, 3) := by decide +kernel
theorem dJ2_getChar_3b067_45 : decode cJ2_getChar_3b067 45 = .ok (.ishl, 1) := by decide +kernel
theorem dJ2_getChar_3b067_46 : decode cJ2_getChar_3b067 46 = .ok (.aload_n 0, 1) := by decide +kernel
theorem dJ2_getChar_3b067_47 : decode cJ2_getChar_3b067 47 = .ok (.iload_n 1, 1) := by decide +kernel
theorem dJ2_getChar_3b067_48 : decode cJ2_getChar_3b067 48 = .ok (.baload, 1) := by decide +kernel
theorem dJ2_getChar_3b067_49 : decode cJ2_getChar_3b067 49 = .ok (.sipush 255, 3) := by decide +kernel
theorem dJ2_getChar_3b067_52 : decode cJ2_getChar_3b067 52 = .ok (.iand, 1) := by decide +kernel
theorem dJ2_getChar_3b067_53 : decode cJ2_getChar_3b067 53 = .ok (.getstatic 63, 3) := by decide +kernel
theorem dJ2_getChar_3b067_56 : decode cJ2_getChar_3b067 56 = .ok (.ishl, 1) := by decide +kernel
theorem dJ2_getChar_3b067_57 : decode cJ2_getChar_3b067 57 = .ok (.ior, 1) := by decide +kernel
theorem dJ2_getChar_3b067_58 : decode cJ2_getChar_3b067 58 = .ok (.i2c, 1) := by decide +kernel
theorem dJ2_getChar_3b067_59 : decode cJ2_getChar_3b067 59 = .ok (.ireturn, 1) := by decide +kernel
theorem dJ2_length_9d52b_0 : decode cJ2_length_9d52b 0 = .ok (.aload_n 0, 1) := by decide +kernel
theorem dJ2_length_9d52b_1 : decode cJ2_length_9d52b 1 = .ok (.arraylength, 1) := by decide +kernel
theorem dJ2_length_9d52b_2 : decode cJ2_length_9d52b 2 = .ok (.iconst 1, 1) := by decide +kernel
theorem dJ2_length_9d52b_3 : decode cJ2_length_9d52b 3 = .ok (.ishr, 1) := by decide +kernel
theorem dJ2_length_9d52b_4 : decode cJ2_length_9d52b 4 = .ok (.ireturn, 1) := by decide +kernel
theorem dJ2_charAt_3b067_0 : decode cJ2_charAt_3b067 0 = .ok (.iload_n 1, 1) := by decide +kernel
theorem dJ2_charAt_3b067_1 : decode cJ2_charAt_3b067 1 = .ok (.aload_n 0, 1) := by decide +kernel
theorem dJ2_charAt_3b067_2 : decode cJ2_charAt_3b067 2 = .ok (.invokestatic 67, 3) := by decide +kernel
theorem dJ2_charAt_3b067_5 : decode cJ2_charAt_3b067 5 = .ok (.aload_n 0, 1) := by decide +kernel
theorem dJ2_charAt_3b067_6 : decode cJ2_charAt_3b067 6 = .ok (.iload_n 1, 1) := by decide +kernel
theorem dJ2_charAt_3b067_7 : decode cJ2_charAt_3b067 7 = .ok (.invokestatic 71, 3) := by decide +kernel
theorem dJ2_charAt_3b067_10 : decode cJ2_charAt_3b067 10 = .ok (.ireturn, 1) := by decide +kernel
theorem dJ2_checkIndex_2214a_0 : decode cJ2_checkIndex_2214a 0 = .ok (.iload_n 0, 1) := by decide +kernel
theorem dJ2_checkIndex_2214a_1 : decode cJ2_checkIndex_2214a 1 = .ok (.aload_n 1, 1) := by decide +kernel
theorem dJ2_checkIndex_2214a_2 : decode cJ2_checkIndex_2214a 2 = .ok (.invokestatic 48, 3) := by decide +kernel
theorem dJ2_checkIndex_2214a_5 : decode cJ2_checkIndex_2214a 5 = .ok (.invokestatic 414, 3) := by decide +kernel
theorem dJ2_checkIndex_2214a_8 : decode cJ2_checkIndex_2214a 8 = .ok (.return_, 1) := by decide +kernel
theorem dJ7_fill_53178_0 : decode cJ7_fill_53178 0 = .ok (.iconst 0, 1) := by decide +kernel
theorem dJ7_fill_53178_1 : decode cJ7_fill_53178 1 = .ok (.istore_n 2, 1) := by decide +kernel
theorem dJ7_fill_53178_2 : decode cJ7_fill_53178 2 = .ok (.aload_n 0, 1) := by decide +kernel
theorem dJ7_fill_53178_3 : decode cJ7_fill_53178 3 = .ok (.arraylength, 1) := by decide +kernel
theorem dJ7_fill_53178_4 : decode cJ7_fill_53178 4 = .ok (.istore_n 3, 1) := by decide +kernel
theorem dJ7_fill_53178_5 : decode cJ7_fill_53178 5 = .ok (.iload_n 2, 1) := by decide +kernel
theorem dJ7_fill_53178_6 : decode cJ7_fill_53178 6 = .ok (.iload_n 3, 1) := by decide +kernel
theorem dJ7_fill_53178_7 : decode cJ7_fill_53178 7 = .ok (.if_icmp .ge 13, 3) := by decide +kernel
theorem dJ7_fill_53178_10 : decode cJ7_fill_53178 10 = .ok (.aload_n 0, 1) := by decide +kernel
theorem dJ7_fill_53178_11 : decode cJ7_fill_53178 11 = .ok (.iload_n 2, 1) := by decide +kernel
theorem dJ7_fill_53178_12 : decode cJ7_fill_53178 12 = .ok (.iload_n 1, 1) := by decide +kernel
theorem dJ7_fill_53178_13 : decode cJ7_fill_53178 13 = .ok (.iastore, 1) := by decide +kernel
theorem dJ7_fill_53178_14 : decode cJ7_fill_53178 14 = .ok (.iinc 2 1, 3) := by decide +kernel
theorem dJ7_fill_53178_17 : decode cJ7_fill_53178 17 = .ok (.goto (-12), 3) := by decide +kernel
theorem dJ7_fill_53178_20 : decode cJ7_fill_53178 20 = .ok (.return_, 1) := by decide +kernel
theorem dJ3_checkIndex_8e157_0 : decode cJ3_checkIndex_8e157 0 = .ok (.iload_n 0, 1) := by decide +kernel
theorem dJ3_checkIndex_8e157_1 : decode cJ3_checkIndex_8e157 1 = .ok (.ifCond .lt 8, 3) := by decide +kernel
theorem dJ3_checkIndex_8e157_4 : decode cJ3_checkIndex_8e157 4 = .ok (.iload_n 0, 1) := by decide +kernel
theorem dJ3_checkIndex_8e157_5 : decode cJ3_checkIndex_8e157 5 = .ok (.iload_n 1, 1) := by decide +kernel
theorem dJ3_checkIndex_8e157_6 : decode cJ3_checkIndex_8e157 6 = .ok (.if_icmp .lt 10, 3) := by decide +kernel
theorem dJ3_checkIndex_8e157_9 : decode cJ3_checkIndex_8e157 9 = .ok (.aload_n 2, 1) := by decide +kernel
theorem dJ3_checkIndex_8e157_10 : decode cJ3_checkIndex_8e157 10 = .ok (.iload_n 0, 1) := by decide +kernel
theorem dJ3_checkIndex_8e157_11 : decode cJ3_checkIndex_8e157 11 = .ok (.iload_n 1, 1) := by decide +kernel
theorem dJ3_checkIndex_8e157_12 : decode cJ3_checkIndex_8e157 12 = .ok (.invokestatic 95, 3) := by decide +kernel
theorem dJ3_checkIndex_8e157_15 : decode cJ3_checkIndex_8e157 15 = .ok (.athrow, 1) := by decide +kernel
theorem dJ3_checkIndex_8e157_16 : decode cJ3_checkIndex_8e157 16 = .ok (.iload_n 0, 1) := by decide +kernel
theorem dJ3_checkIndex_8e157_17 : decode cJ3_checkIndex_8e157 17 = .ok (.ireturn, 1) := by decide +kernel
