theorem dX0_init_0 : decode cX0_init 0 = .ok (.aload_n 0, 1) := by decide +kernel
theorem dX0_init_1 : decode cX0_init 1 = .ok (.invokespecial 3, 3) := by decide +kernel
theorem dX0_init_4 : decode cX0_init 4 = .ok (.aload_n 0, 1) := by decide +kernel
theorem dX0_init_5 : decode cX0_init 5 = .ok (.bipush 12, 2) := by decide +kernel
theorem dX0_init_7 : decode cX0_init 7 = .ok (.anewarray 9, 3) := by decide +kernel
theorem dX0_init_10 : decode cX0_init 10 = .ok (.putfield 11, 3) := by decide +kernel
theorem dX0_init_13 : decode cX0_init 13 = .ok (.aload_n 0, 1) := by decide +kernel
theorem dX0_init_14 : decode cX0_init 14 = .ok (.bipush 12, 2) := by decide +kernel
theorem dX0_init_16 : decode cX0_init 16 = .ok (.newarray .int, 2) := by decide +kernel
theorem dX0_init_18 : decode cX0_init 18 = .ok (.putfield 17, 3) := by decide +kernel
theorem dX0_init_21 : decode cX0_init 21 = .ok (.iconst 0, 1) := by decide +kernel
theorem dX0_init_22 : decode cX0_init 22 = .ok (.istore_n 1, 1) := by decide +kernel
theorem dX0_init_23 : decode cX0_init 23 = .ok (.iload_n 1, 1) := by decide +kernel
theorem dX0_init_24 : decode cX0_init 24 = .ok (.bipush 12, 2) := by decide +kernel
theorem dX0_init_26 : decode cX0_init 26 = .ok (.if_icmp .ge 22, 3) := by decide +kernel
theorem dX0_init_29 : decode cX0_init 29 = .ok (.aload_n 0, 1) := by decide +kernel
theorem dX0_init_30 : decode cX0_init 30 = .ok (.getfield 11, 3) := by decide +kernel
theorem dX0_init_33 : decode cX0_init 33 = .ok (.iload_n 1, 1) := by decide +kernel
theorem dX0_init_34 : decode cX0_init 34 = .ok (.new 9, 3) := by decide +kernel
theorem dX0_init_37 : decode cX0_init 37 = .ok (.dup, 1) := by decide +kernel
theorem dX0_init_38 : decode cX0_init 38 = .ok (.invokespecial 21, 3) := by decide +kernel
theorem dX0_init_41 : decode cX0_init 41 = .ok (.aastore, 1) := by decide +kernel
theorem dX0_init_42 : decode cX0_init 42 = .ok (.iinc 1 1, 3) := by decide +kernel
theorem dX0_init_45 : decode cX0_init 45 = .ok (.goto (-22), 3) := by decide +kernel
theorem dX0_init_48 : decode cX0_init 48 = .ok (.return_, 1) := by decide +kernel
theorem dX0_copyFrom_0 : decode cX0_copyFrom 0 = .ok (.iconst 0, 1) := by decide +kernel
theorem dX0_copyFrom_1 : decode cX0_copyFrom 1 = .ok (.istore_n 2, 1) := by decide +kernel
theorem dX0_copyFrom_2 : decode cX0_copyFrom 2 = .ok (.iload_n 2, 1) := by decide +kernel
theorem dX0_copyFrom_3 : decode cX0_copyFrom 3 = .ok (.aload_n 1, 1) := by decide +kernel
theorem dX0_copyFrom_4 : decode cX0_copyFrom 4 = .ok (.getfield 22, 3) := by decide +kernel
theorem dX0_copyFrom_7 : decode cX0_copyFrom 7 = .ok (.if_icmp .ge 36, 3) := by decide +kernel
theorem dX0_copyFrom_10 : decode cX0_copyFrom 10 = .ok (.aload_n 0, 1) := by decide +kernel
theorem dX0_copyFrom_11 : decode cX0_copyFrom 11 = .ok (.getfield 11, 3) := by decide +kernel
theorem dX0_copyFrom_14 : decode cX0_copyFrom 14 = .ok (.iload_n 2, 1) := by decide +kernel
theorem dX0_copyFrom_15 : decode cX0_copyFrom 15 = .ok (.aaload, 1) := by decide +kernel
theorem dX0_copyFrom_16 : decode cX0_copyFrom 16 = .ok (.aload_n 1, 1) := by decide +kernel
theorem dX0_copyFrom_17 : decode cX0_copyFrom 17 = .ok (.getfield 11, 3) := by decide +kernel
theorem dX0_copyFrom_20 : decode cX0_copyFrom 20 = .ok (.iload_n 2, 1) := by decide +kernel
theorem dX0_copyFrom_21 : decode cX0_copyFrom 21 = .ok (.aaload, 1) := by decide +kernel
theorem dX0_copyFrom_22 : decode cX0_copyFrom 22 = .ok (.invokevirtual 26, 3) := by decide +kernel
theorem dX0_copyFrom_25 : decode cX0_copyFrom 25 = .ok (.aload_n 0, 1) := by decide +kernel
theorem dX0_copyFrom_26 : decode cX0_copyFrom 26 = .ok (.getfield 17, 3) := by decide +kernel
theorem dX0_copyFrom_29 : decode cX0_copyFrom 29 = .ok (.iload_n 2, 1) := by decide +kernel
theorem dX0_copyFrom_30 : decode cX0_copyFrom 30 = .ok (.aload_n 1, 1) := by decide +kernel
theorem dX0_copyFrom_31 : decode cX0_copyFrom 31 = .ok (.getfield 17, 3) := by decide +kernel
theorem dX0_copyFrom_34 : decode cX0_copyFrom 34 = .ok (.iload_n 2, 1) := by decide +kernel
theorem dX0_copyFrom_35 : decode cX0_copyFrom 35 = .ok (.iaload, 1) := by decide +kernel
theorem dX0_copyFrom_36 : decode cX0_copyFrom 36 = .ok (.iastore, 1) := by decide +kernel
theorem dX0_copyFrom_37 : decode cX0_copyFrom 37 = .ok (.iinc 2 1, 3) := by decide +kernel
theorem dX0_copyFrom_40 : decode cX0_copyFrom 40 = .ok (.goto (-38), 3) := by decide +kernel
theorem dX0_copyFrom_43 : decode cX0_copyFrom 43 = .ok (.aload_n 0, 1) := by decide +kernel
theorem dX0_copyFrom_44 : decode cX0_copyFrom 44 = .ok (.aload_n 1, 1) := by decide +kernel
theorem dX0_copyFrom_45 : decode cX0_copyFrom 45 = .ok (.getfield 22, 3) := by decide +kernel
theorem dX0_copyFrom_48 : decode cX0_copyFrom 48 = .ok (.putfield 22, 3) := by decide +kernel
theorem dX0_copyFrom_51 : decode cX0_copyFrom 51 = .ok (.return_, 1) := by decide +kernel
theorem dX0_clear_0 : decode cX0_clear 0 = .ok (.aload_n 0, 1) := by decide +kernel
theorem dX0_clear_1 : decode cX0_clear 1 = .ok (.iconst 0, 1) := by decide +kernel
theorem dX0_clear_2 : decode cX0_clear 2 = .ok (.putfield 22, 3) := by decide +kernel
theorem dX0_clear_5 : decode cX0_clear 5 = .ok (.return_, 1) := by decide +kernel
theorem dX0_add_0 : decode cX0_add 0 = .ok (.aload_n 0, 1) := by decide +kernel
theorem dX0_add_1 : decode cX0_add 1 = .ok (.getfield 22, 3) := by decide +kernel
theorem dX0_add_4 : decode cX0_add 4 = .ok (.bipush 12, 2) := by decide +kernel
theorem dX0_add_6 : decode cX0_add 6 = .ok (.if_icmp .lt 5, 3) := by decide +kernel
theorem dX0_add_9 : decode cX0_add 9 = .ok (.iconst 0, 1) := by decide +kernel
theorem dX0_add_10 : decode cX0_add 10 = .ok (.ireturn, 1) := by decide +kernel
theorem dX0_add_11 : decode cX0_add 11 = .ok (.aload_n 0, 1) := by decide +kernel
theorem dX0_add_12 : decode cX0_add 12 = .ok (.getfield 11, 3) := by decide +kernel
theorem dX0_add_15 : decode cX0_add 15 = .ok (.aload_n 0, 1) := by decide +kernel
theorem dX0_add_16 : decode cX0_add 16 = .ok (.getfield 22, 3) := by decide +kernel
theorem dX0_add_19 : decode cX0_add 19 = .ok (.aaload, 1) := by decide +kernel
theorem dX0_add_20 : decode cX0_add 20 = .ok (.aload_n 1, 1) := by decide +kernel
theorem dX0_add_21 : decode cX0_add 21 = .ok (.invokevirtual 26, 3) := by decide +kernel
theorem dX0_add_24 : decode cX0_add 24 = .ok (.aload_n 0, 1) := by decide +kernel
theorem dX0_add_25 : decode cX0_add 25 = .ok (.getfield 17, 3) := by decide +kernel
theorem dX0_add_28 : decode cX0_add 28 = .ok (.aload_n 0, 1) := by decide +kernel
theorem dX0_add_29 : decode cX0_add 29 = .ok (.getfield 22, 3) := by decide +kernel
theorem dX0_add_32 : decode cX0_add 32 = .ok (.iload_n 2, 1) := by decide +kernel
theorem dX0_add_33 : decode cX0_add 33 = .ok (.iastore, 1) := by decide +kernel
theorem dX0_add_34 : decode cX0_add 34 = .ok (.aload_n 0, 1) := by decide +kernel
theorem dX0_add_35 : decode cX0_add 35 = .ok (.dup, 1) := by decide +kernel
theorem dX0_add_36 : decode cX0_add 36 = .ok (.getfield 22, 3) := by decide +kernel
theorem dX0_add_39 : decode cX0_add 39 = .ok (.iconst 1, 1) := by decide +kernel
theorem dX0_add_40 : decode cX0_add 40 = .ok (.iadd, 1) := by decide +kernel
theorem dX0_add_41 : decode cX0_add 41 = .ok (.putfield 22, 3) := by decide +kernel
theorem dX0_add_44 : decode cX0_add 44 = .ok (.iconst 1, 1) := by decide +kernel
theorem dX0_add_45 : decode cX0_add 45 = .ok (.ireturn, 1) := by decide +kernel
theorem dX0_takeDue_0 : decode cX0_takeDue 0 = .ok (.iconst 0, 1) := by decide +kernel
theorem dX0_takeDue_1 : decode cX0_takeDue 1 = .ok (.istore_n 3, 1) := by decide +kernel
theorem dX0_takeDue_2 : decode cX0_takeDue 2 = .ok (.iload_n 3, 1) := by decide +kernel
theorem dX0_takeDue_3 : decode cX0_takeDue 3 = .ok (.aload_n 0, 1) := by decide +kernel
theorem dX0_takeDue_4 : decode cX0_takeDue 4 = .ok (.getfield 22, 3) := by decide +kernel
theorem dX0_takeDue_7 : decode cX0_takeDue 7 = .ok (.if_icmp .ge 36, 3) := by decide +kernel
theorem dX0_takeDue_10 : decode cX0_takeDue 10 = .ok (.aload_n 0, 1) := by decide +kernel
theorem dX0_takeDue_11 : decode cX0_takeDue 11 = .ok (.getfield 17, 3) := by decide +kernel
theorem dX0_takeDue_14 : decode cX0_takeDue 14 = .ok (.iload_n 3, 1) := by decide +kernel
theorem dX0_takeDue_15 : decode cX0_takeDue 15 = .ok (.iaload, 1) := by decide +kernel
theorem dX0_takeDue_16 : decode cX0_takeDue 16 = .ok (.iload_n 1, 1) := by decide +kernel
theorem dX0_takeDue_17 : decode cX0_takeDue 17 = .ok (.if_icmp .gt 20, 3) := by decide +kernel
theorem dX0_takeDue_20 : decode cX0_takeDue 20 = .ok (.aload_n 2, 1) := by decide +kernel
theorem dX0_takeDue_21 : decode cX0_takeDue 21 = .ok (.aload_n 0, 1) := by decide +kernel
theorem dX0_takeDue_22 : decode cX0_takeDue 22 = .ok (.getfield 11, 3) := by decide +kernel
theorem dX0_takeDue_25 : decode cX0_takeDue 25 = .ok (.iload_n 3, 1) := by decide +kernel
theorem dX0_takeDue_26 : decode cX0_takeDue 26 = .ok (.aaload, 1) := by decide +kernel
theorem dX0_takeDue_27 : decode cX0_takeDue 27 = .ok (.invokevirtual 26, 3) := by decide +kernel
theorem dX0_takeDue_30 : decode cX0_takeDue 30 = .ok (.aload_n 0, 1) := by decide +kernel
theorem dX0_takeDue_31 : decode cX0_takeDue 31 = .ok (.iload_n 3, 1) := by decide +kernel
theorem dX0_takeDue_32 : decode cX0_takeDue 32 = .ok (.invokevirtual 30, 3) := by decide +kernel
theorem dX0_takeDue_35 : decode cX0_takeDue 35 = .ok (.iconst 1, 1) := by decide +kernel
theorem dX0_takeDue_36 : decode cX0_takeDue 36 = .ok (.ireturn, 1) := by decide +kernel
theorem dX0_takeDue_37 : decode cX0_takeDue 37 = .ok (.iinc 3 1, 3) := by decide +kernel
theorem dX0_takeDue_40 : decode cX0_takeDue 40 = .ok (.goto (-38), 3) := by decide +kernel
theorem dX0_takeDue_43 : decode cX0_takeDue 43 = .ok (.iconst 0, 1) := by decide +kernel
theorem dX0_takeDue_44 : decode cX0_takeDue 44 = .ok (.ireturn, 1) := by decide +kernel
theorem dX0_removeAt_0 : decode cX0_removeAt 0 = .ok (.iload_n 1, 1) := by decide +kernel
theorem dX0_removeAt_1 : decode cX0_removeAt 1 = .ok (.ifCond .lt 11, 3) := by decide +kernel
theorem dX0_removeAt_4 : decode cX0_removeAt 4 = .ok (.iload_n 1, 1) := by decide +kernel
theorem dX0_removeAt_5 : decode cX0_removeAt 5 = .ok (.aload_n 0, 1) := by decide +kernel
theorem dX0_removeAt_6 : decode cX0_removeAt 6 = .ok (.getfield 22, 3) := by decide +kernel
theorem dX0_removeAt_9 : decode cX0_removeAt 9 = .ok (.if_icmp .lt 4, 3) := by decide +kernel
theorem dX0_removeAt_12 : decode cX0_removeAt 12 = .ok (.return_, 1) := by decide +kernel
theorem dX0_removeAt_13 : decode cX0_removeAt 13 = .ok (.aload_n 0, 1) := by decide +kernel
theorem dX0_removeAt_14 : decode cX0_removeAt 14 = .ok (.getfield 11, 3) := by decide +kernel
theorem dX0_removeAt_17 : decode cX0_removeAt 17 = .ok (.iload_n 1, 1) := by decide +kernel
theorem dX0_removeAt_18 : decode cX0_removeAt 18 = .ok (.aaload, 1) := by decide +kernel
theorem dX0_removeAt_19 : decode cX0_removeAt 19 = .ok (.astore_n 2, 1) := by decide +kernel
theorem dX0_removeAt_20 : decode cX0_removeAt 20 = .ok (.iload_n 1, 1) := by decide +kernel
theorem dX0_removeAt_21 : decode cX0_removeAt 21 = .ok (.iconst 1, 1) := by decide +kernel
theorem dX0_removeAt_22 : decode cX0_removeAt 22 = .ok (.iadd, 1) := by decide +kernel
theorem dX0_removeAt_23 : decode cX0_removeAt 23 = .ok (.istore_n 3, 1) := by decide +kernel
theorem dX0_removeAt_24 : decode cX0_removeAt 24 = .ok (.iload_n 3, 1) := by decide +kernel
theorem dX0_removeAt_25 : decode cX0_removeAt 25 = .ok (.aload_n 0, 1) := by decide +kernel
theorem dX0_removeAt_26 : decode cX0_removeAt 26 = .ok (.getfield 22, 3) := by decide +kernel
theorem dX0_removeAt_29 : decode cX0_removeAt 29 = .ok (.if_icmp .ge 37, 3) := by decide +kernel
theorem dX0_removeAt_32 : decode cX0_removeAt 32 = .ok (.aload_n 0, 1) := by decide +kernel
theorem dX0_removeAt_33 : decode cX0_removeAt 33 = .ok (.getfield 11, 3) := by decide +kernel
theorem dX0_removeAt_36 : decode cX0_removeAt 36 = .ok (.iload_n 3, 1) := by decide +kernel
theorem dX0_removeAt_37 : decode cX0_removeAt 37 = .ok (.iconst 1, 1) := by decide +kernel
theorem dX0_removeAt_38 : decode cX0_removeAt 38 = .ok (.isub, 1) := by decide +kernel
theorem dX0_removeAt_39 : decode cX0_removeAt 39 = .ok (.aload_n 0, 1) := by decide +kernel
theorem dX0_removeAt_40 : decode cX0_removeAt 40 = .ok (.getfield 11, 3) := by decide +kernel
theorem dX0_removeAt_43 : decode cX0_removeAt 43 = .ok (.iload_n 3, 1) := by decide +kernel
theorem dX0_removeAt_44 : decode cX0_removeAt 44 = .ok (.aaload, 1) := by decide +kernel
theorem dX0_removeAt_45 : decode cX0_removeAt 45 = .ok (.aastore, 1) := by decide +kernel
theorem dX0_removeAt_46 : decode cX0_removeAt 46 = .ok (.aload_n 0, 1) := by decide +kernel
theorem dX0_removeAt_47 : decode cX0_removeAt 47 = .ok (.getfield 17, 3) := by decide +kernel
theorem dX0_removeAt_50 : decode cX0_removeAt 50 = .ok (.iload_n 3, 1) := by decide +kernel
theorem dX0_removeAt_51 : decode cX0_removeAt 51 = .ok (.iconst 1, 1) := by decide +kernel
theorem dX0_removeAt_52 : decode cX0_removeAt 52 = .ok (.isub, 1) := by decide +kernel
theorem dX0_removeAt_53 : decode cX0_removeAt 53 = .ok (.aload_n 0, 1) := by decide +kernel
theorem dX0_removeAt_54 : decode cX0_removeAt 54 = .ok (.getfield 17, 3) := by decide +kernel
theorem dX0_removeAt_57 : decode cX0_removeAt 57 = .ok (.iload_n 3, 1) := by decide +kernel
theorem dX0_removeAt_58 : decode cX0_removeAt 58 = .ok (.iaload, 1) := by decide +kernel
theorem dX0_removeAt_59 : decode cX0_removeAt 59 = .ok (.iastore, 1) := by decide +kernel
theorem dX0_removeAt_60 : decode cX0_removeAt 60 = .ok (.iinc 3 1, 3) := by decide +kernel
theorem dX0_removeAt_63 : decode cX0_removeAt 63 = .ok (.goto (-39), 3) := by decide +kernel
theorem dX0_removeAt_66 : decode cX0_removeAt 66 = .ok (.aload_n 0, 1) := by decide +kernel
theorem dX0_removeAt_67 : decode cX0_removeAt 67 = .ok (.dup, 1) := by decide +kernel
theorem dX0_removeAt_68 : decode cX0_removeAt 68 = .ok (.getfield 22, 3) := by decide +kernel
theorem dX0_removeAt_71 : decode cX0_removeAt 71 = .ok (.iconst 1, 1) := by decide +kernel
theorem dX0_removeAt_72 : decode cX0_removeAt 72 = .ok (.isub, 1) := by decide +kernel
theorem dX0_removeAt_73 : decode cX0_removeAt 73 = .ok (.putfield 22, 3) := by decide +kernel
theorem dX0_removeAt_76 : decode cX0_removeAt 76 = .ok (.aload_n 0, 1) := by decide +kernel
theorem dX0_removeAt_77 : decode cX0_removeAt 77 = .ok (.getfield 11, 3) := by decide +kernel
theorem dX0_removeAt_80 : decode cX0_removeAt 80 = .ok (.aload_n 0, 1) := by decide +kernel
theorem dX0_removeAt_81 : decode cX0_removeAt 81 = .ok (.getfield 22, 3) := by decide +kernel
theorem dX0_removeAt_84 : decode cX0_removeAt 84 = .ok (.aload_n 2, 1) := by decide +kernel
theorem dX0_removeAt_85 : decode cX0_removeAt 85 = .ok (.aastore, 1) := by decide +kernel
theorem dX0_removeAt_86 : decode cX0_removeAt 86 = .ok (.return_, 1) := by decide +kernel
theorem dX1_init_0 : decode cX1_init 0 = .ok (.aload_n 0, 1) := by decide +kernel
theorem dX1_init_1 : decode cX1_init 1 = .ok (.invokespecial 3, 3) := by decide +kernel
theorem dX1_init_4 : decode cX1_init 4 = .ok (.aload_n 0, 1) := by decide +kernel
theorem dX1_init_5 : decode cX1_init 5 = .ok (.bipush 16, 2) := by decide +kernel
theorem dX1_init_7 : decode cX1_init 7 = .ok (.newarray .int, 2) := by decide +kernel
theorem dX1_init_9 : decode cX1_init 9 = .ok (.putfield 9, 3) := by decide +kernel
theorem dX1_init_12 : decode cX1_init 12 = .ok (.aload_n 0, 1) := by decide +kernel
theorem dX1_init_13 : decode cX1_init 13 = .ok (.bipush 16, 2) := by decide +kernel
theorem dX1_init_15 : decode cX1_init 15 = .ok (.newarray .int, 2) := by decide +kernel
theorem dX1_init_17 : decode cX1_init 17 = .ok (.putfield 15, 3) := by decide +kernel
theorem dX1_init_20 : decode cX1_init 20 = .ok (.aload_n 0, 1) := by decide +kernel
theorem dX1_init_21 : decode cX1_init 21 = .ok (.bipush 16, 2) := by decide +kernel
theorem dX1_init_23 : decode cX1_init 23 = .ok (.newarray .int, 2) := by decide +kernel
theorem dX1_init_25 : decode cX1_init 25 = .ok (.putfield 18, 3) := by decide +kernel
theorem dX1_init_28 : decode cX1_init 28 = .ok (.return_, 1) := by decide +kernel
theorem dX1_copyFrom_0 : decode cX1_copyFrom 0 = .ok (.aload_n 1, 1) := by decide +kernel
theorem dX1_copyFrom_1 : decode cX1_copyFrom 1 = .ok (.getfield 9, 3) := by decide +kernel
theorem dX1_copyFrom_4 : decode cX1_copyFrom 4 = .ok (.iconst 0, 1) := by decide +kernel
theorem dX1_copyFrom_5 : decode cX1_copyFrom 5 = .ok (.aload_n 0, 1) := by decide +kernel
theorem dX1_copyFrom_6 : decode cX1_copyFrom 6 = .ok (.getfield 9, 3) := by decide +kernel
theorem dX1_copyFrom_9 : decode cX1_copyFrom 9 = .ok (.iconst 0, 1) := by decide +kernel
theorem dX1_copyFrom_10 : decode cX1_copyFrom 10 = .ok (.bipush 16, 2) := by decide +kernel
theorem dX1_copyFrom_12 : decode cX1_copyFrom 12 = .ok (.invokestatic 21, 3) := by decide +kernel
theorem dX1_copyFrom_15 : decode cX1_copyFrom 15 = .ok (.aload_n 1, 1) := by decide +kernel
theorem dX1_copyFrom_16 : decode cX1_copyFrom 16 = .ok (.getfield 15, 3) := by decide +kernel
theorem dX1_copyFrom_19 : decode cX1_copyFrom 19 = .ok (.iconst 0, 1) := by decide +kernel
theorem dX1_copyFrom_20 : decode cX1_copyFrom 20 = .ok (.aload_n 0, 1) := by decide +kernel
theorem dX1_copyFrom_21 : decode cX1_copyFrom 21 = .ok (.getfield 15, 3) := by decide +kernel
theorem dX1_copyFrom_24 : decode cX1_copyFrom 24 = .ok (.iconst 0, 1) := by decide +kernel
theorem dX1_copyFrom_25 : decode cX1_copyFrom 25 = .ok (.bipush 16, 2) := by decide +kernel
theorem dX1_copyFrom_27 : decode cX1_copyFrom 27 = .ok (.invokestatic 21, 3) := by decide +kernel
theorem dX1_copyFrom_30 : decode cX1_copyFrom 30 = .ok (.aload_n 1, 1) := by decide +kernel
theorem dX1_copyFrom_31 : decode cX1_copyFrom 31 = .ok (.getfield 18, 3) := by decide +kernel
theorem dX1_copyFrom_34 : decode cX1_copyFrom 34 = .ok (.iconst 0, 1) := by decide +kernel
theorem dX1_copyFrom_35 : decode cX1_copyFrom 35 = .ok (.aload_n 0, 1) := by decide +kernel
theorem dX1_copyFrom_36 : decode cX1_copyFrom 36 = .ok (.getfield 18, 3) := by decide +kernel
theorem dX1_copyFrom_39 : decode cX1_copyFrom 39 = .ok (.iconst 0, 1) := by decide +kernel
theorem dX1_copyFrom_40 : decode cX1_copyFrom 40 = .ok (.bipush 16, 2) := by decide +kernel
theorem dX1_copyFrom_42 : decode cX1_copyFrom 42 = .ok (.invokestatic 21, 3) := by decide +kernel
theorem dX1_copyFrom_45 : decode cX1_copyFrom 45 = .ok (.aload_n 0, 1) := by decide +kernel
theorem dX1_copyFrom_46 : decode cX1_copyFrom 46 = .ok (.aload_n 1, 1) := by decide +kernel
theorem dX1_copyFrom_47 : decode cX1_copyFrom 47 = .ok (.getfield 27, 3) := by decide +kernel
theorem dX1_copyFrom_50 : decode cX1_copyFrom 50 = .ok (.putfield 27, 3) := by decide +kernel
theorem dX1_copyFrom_53 : decode cX1_copyFrom 53 = .ok (.return_, 1) := by decide +kernel
theorem dX1_clear_0 : decode cX1_clear 0 = .ok (.aload_n 0, 1) := by decide +kernel
theorem dX1_clear_1 : decode cX1_clear 1 = .ok (.iconst 0, 1) := by decide +kernel
theorem dX1_clear_2 : decode cX1_clear 2 = .ok (.putfield 27, 3) := by decide +kernel
theorem dX1_clear_5 : decode cX1_clear 5 = .ok (.return_, 1) := by decide +kernel
theorem dX1_placeOf_0 : decode cX1_placeOf 0 = .ok (.iconst 0, 1) := by decide +kernel
theorem dX1_placeOf_1 : decode cX1_placeOf 1 = .ok (.istore_n 2, 1) := by decide +kernel
theorem dX1_placeOf_2 : decode cX1_placeOf 2 = .ok (.iload_n 2, 1) := by decide +kernel
theorem dX1_placeOf_3 : decode cX1_placeOf 3 = .ok (.aload_n 0, 1) := by decide +kernel
theorem dX1_placeOf_4 : decode cX1_placeOf 4 = .ok (.getfield 27, 3) := by decide +kernel
theorem dX1_placeOf_7 : decode cX1_placeOf 7 = .ok (.if_icmp .ge 37, 3) := by decide +kernel
theorem dX1_placeOf_10 : decode cX1_placeOf 10 = .ok (.aload_n 0, 1) := by decide +kernel
theorem dX1_placeOf_11 : decode cX1_placeOf 11 = .ok (.getfield 9, 3) := by decide +kernel
theorem dX1_placeOf_14 : decode cX1_placeOf 14 = .ok (.iload_n 2, 1) := by decide +kernel
theorem dX1_placeOf_15 : decode cX1_placeOf 15 = .ok (.iaload, 1) := by decide +kernel
theorem dX1_placeOf_16 : decode cX1_placeOf 16 = .ok (.aload_n 1, 1) := by decide +kernel
theorem dX1_placeOf_17 : decode cX1_placeOf 17 = .ok (.getfield 31, 3) := by decide +kernel
theorem dX1_placeOf_20 : decode cX1_placeOf 20 = .ok (.if_icmp .ne 18, 3) := by decide +kernel
theorem dX1_placeOf_23 : decode cX1_placeOf 23 = .ok (.aload_n 0, 1) := by decide +kernel
theorem dX1_placeOf_24 : decode cX1_placeOf 24 = .ok (.getfield 15, 3) := by decide +kernel
theorem dX1_placeOf_27 : decode cX1_placeOf 27 = .ok (.iload_n 2, 1) := by decide +kernel
theorem dX1_placeOf_28 : decode cX1_placeOf 28 = .ok (.iaload, 1) := by decide +kernel
theorem dX1_placeOf_29 : decode cX1_placeOf 29 = .ok (.aload_n 1, 1) := by decide +kernel
theorem dX1_placeOf_30 : decode cX1_placeOf 30 = .ok (.getfield 36, 3) := by decide +kernel
theorem dX1_placeOf_33 : decode cX1_placeOf 33 = .ok (.if_icmp .ne 5, 3) := by decide +kernel
theorem dX1_placeOf_36 : decode cX1_placeOf 36 = .ok (.iload_n 2, 1) := by decide +kernel
theorem dX1_placeOf_37 : decode cX1_placeOf 37 = .ok (.ireturn, 1) := by decide +kernel
theorem dX1_placeOf_38 : decode cX1_placeOf 38 = .ok (.iinc 2 1, 3) := by decide +kernel
theorem dX1_placeOf_41 : decode cX1_placeOf 41 = .ok (.goto (-39), 3) := by decide +kernel
theorem dX1_placeOf_44 : decode cX1_placeOf 44 = .ok (.bipush (-6), 2) := by decide +kernel
theorem dX1_placeOf_46 : decode cX1_placeOf 46 = .ok (.ireturn, 1) := by decide +kernel
theorem dX1_add_0 : decode cX1_add 0 = .ok (.aload_n 0, 1) := by decide +kernel
theorem dX1_add_1 : decode cX1_add 1 = .ok (.getfield 27, 3) := by decide +kernel
theorem dX1_add_4 : decode cX1_add 4 = .ok (.bipush 16, 2) := by decide +kernel
theorem dX1_add_6 : decode cX1_add 6 = .ok (.if_icmp .lt 8, 3) := by decide +kernel
theorem dX1_add_9 : decode cX1_add 9 = .ok (.aload_n 0, 1) := by decide +kernel
theorem dX1_add_10 : decode cX1_add 10 = .ok (.iconst 0, 1) := by decide +kernel
theorem dX1_add_11 : decode cX1_add 11 = .ok (.invokevirtual 39, 3) := by decide +kernel
theorem dX1_add_14 : decode cX1_add 14 = .ok (.aload_n 0, 1) := by decide +kernel
theorem dX1_add_15 : decode cX1_add 15 = .ok (.getfield 9, 3) := by decide +kernel
theorem dX1_add_18 : decode cX1_add 18 = .ok (.aload_n 0, 1) := by decide +kernel
theorem dX1_add_19 : decode cX1_add 19 = .ok (.getfield 27, 3) := by decide +kernel
theorem dX1_add_22 : decode cX1_add 22 = .ok (.aload_n 1, 1) := by decide +kernel
theorem dX1_add_23 : decode cX1_add 23 = .ok (.getfield 31, 3) := by decide +kernel
theorem dX1_add_26 : decode cX1_add 26 = .ok (.iastore, 1) := by decide +kernel
theorem dX1_add_27 : decode cX1_add 27 = .ok (.aload_n 0, 1) := by decide +kernel
theorem dX1_add_28 : decode cX1_add 28 = .ok (.getfield 15, 3) := by decide +kernel
theorem dX1_add_31 : decode cX1_add 31 = .ok (.aload_n 0, 1) := by decide +kernel
theorem dX1_add_32 : decode cX1_add 32 = .ok (.getfield 27, 3) := by decide +kernel
theorem dX1_add_35 : decode cX1_add 35 = .ok (.aload_n 1, 1) := by decide +kernel
theorem dX1_add_36 : decode cX1_add 36 = .ok (.getfield 36, 3) := by decide +kernel
theorem dX1_add_39 : decode cX1_add 39 = .ok (.iastore, 1) := by decide +kernel
theorem dX1_add_40 : decode cX1_add 40 = .ok (.aload_n 0, 1) := by decide +kernel
theorem dX1_add_41 : decode cX1_add 41 = .ok (.getfield 18, 3) := by decide +kernel
theorem dX1_add_44 : decode cX1_add 44 = .ok (.aload_n 0, 1) := by decide +kernel
theorem dX1_add_45 : decode cX1_add 45 = .ok (.getfield 27, 3) := by decide +kernel
theorem dX1_add_48 : decode cX1_add 48 = .ok (.iload_n 2, 1) := by decide +kernel
theorem dX1_add_49 : decode cX1_add 49 = .ok (.iastore, 1) := by decide +kernel
theorem dX1_add_50 : decode cX1_add 50 = .ok (.aload_n 0, 1) := by decide +kernel
theorem dX1_add_51 : decode cX1_add 51 = .ok (.dup, 1) := by decide +kernel
theorem dX1_add_52 : decode cX1_add 52 = .ok (.getfield 27, 3) := by decide +kernel
theorem dX1_add_55 : decode cX1_add 55 = .ok (.iconst 1, 1) := by decide +kernel
theorem dX1_add_56 : decode cX1_add 56 = .ok (.iadd, 1) := by decide +kernel
theorem dX1_add_57 : decode cX1_add 57 = .ok (.putfield 27, 3) := by decide +kernel
theorem dX1_add_60 : decode cX1_add 60 = .ok (.return_, 1) := by decide +kernel
theorem dX1_removeAt_0 : decode cX1_removeAt 0 = .ok (.iload_n 1, 1) := by decide +kernel
theorem dX1_removeAt_1 : decode cX1_removeAt 1 = .ok (.ifCond .lt 11, 3) := by decide +kernel
theorem dX1_removeAt_4 : decode cX1_removeAt 4 = .ok (.iload_n 1, 1) := by decide +kernel
theorem dX1_removeAt_5 : decode cX1_removeAt 5 = .ok (.aload_n 0, 1) := by decide +kernel
theorem dX1_removeAt_6 : decode cX1_removeAt 6 = .ok (.getfield 27, 3) := by decide +kernel
theorem dX1_removeAt_9 : decode cX1_removeAt 9 = .ok (.if_icmp .lt 4, 3) := by decide +kernel
theorem dX1_removeAt_12 : decode cX1_removeAt 12 = .ok (.return_, 1) := by decide +kernel
theorem dX1_removeAt_13 : decode cX1_removeAt 13 = .ok (.iload_n 1, 1) := by decide +kernel
theorem dX1_removeAt_14 : decode cX1_removeAt 14 = .ok (.iconst 1, 1) := by decide +kernel
theorem dX1_removeAt_15 : decode cX1_removeAt 15 = .ok (.iadd, 1) := by decide +kernel
theorem dX1_removeAt_16 : decode cX1_removeAt 16 = .ok (.istore_n 2, 1) := by decide +kernel
theorem dX1_removeAt_17 : decode cX1_removeAt 17 = .ok (.iload_n 2, 1) := by decide +kernel
theorem dX1_removeAt_18 : decode cX1_removeAt 18 = .ok (.aload_n 0, 1) := by decide +kernel
theorem dX1_removeAt_19 : decode cX1_removeAt 19 = .ok (.getfield 27, 3) := by decide +kernel
theorem dX1_removeAt_22 : decode cX1_removeAt 22 = .ok (.if_icmp .ge 17, 3) := by decide +kernel
theorem dX1_removeAt_25 : decode cX1_removeAt 25 = .ok (.aload_n 0, 1) := by decide +kernel
theorem dX1_removeAt_26 : decode cX1_removeAt 26 = .ok (.iload_n 2, 1) := by decide +kernel
theorem dX1_removeAt_27 : decode cX1_removeAt 27 = .ok (.iload_n 2, 1) := by decide +kernel
theorem dX1_removeAt_28 : decode cX1_removeAt 28 = .ok (.iconst 1, 1) := by decide +kernel
theorem dX1_removeAt_29 : decode cX1_removeAt 29 = .ok (.isub, 1) := by decide +kernel
theorem dX1_removeAt_30 : decode cX1_removeAt 30 = .ok (.invokevirtual 43, 3) := by decide +kernel
theorem dX1_removeAt_33 : decode cX1_removeAt 33 = .ok (.iinc 2 1, 3) := by decide +kernel
theorem dX1_removeAt_36 : decode cX1_removeAt 36 = .ok (.goto (-19), 3) := by decide +kernel
theorem dX1_removeAt_39 : decode cX1_removeAt 39 = .ok (.aload_n 0, 1) := by decide +kernel
theorem dX1_removeAt_40 : decode cX1_removeAt 40 = .ok (.dup, 1) := by decide +kernel
theorem dX1_removeAt_41 : decode cX1_removeAt 41 = .ok (.getfield 27, 3) := by decide +kernel
theorem dX1_removeAt_44 : decode cX1_removeAt 44 = .ok (.iconst 1, 1) := by decide +kernel
theorem dX1_removeAt_45 : decode cX1_removeAt 45 = .ok (.isub, 1) := by decide +kernel
theorem dX1_removeAt_46 : decode cX1_removeAt 46 = .ok (.putfield 27, 3) := by decide +kernel
theorem dX1_removeAt_49 : decode cX1_removeAt 49 = .ok (.return_, 1) := by decide +kernel
theorem dX1_dropOld_0 : decode cX1_dropOld 0 = .ok (.iconst 0, 1) := by decide +kernel
theorem dX1_dropOld_1 : decode cX1_dropOld 1 = .ok (.istore_n 3, 1) := by decide +kernel
theorem dX1_dropOld_2 : decode cX1_dropOld 2 = .ok (.iconst 0, 1) := by decide +kernel
theorem dX1_dropOld_3 : decode cX1_dropOld 3 = .ok (.istore 4, 2) := by decide +kernel
theorem dX1_dropOld_5 : decode cX1_dropOld 5 = .ok (.iload 4, 2) := by decide +kernel
theorem dX1_dropOld_7 : decode cX1_dropOld 7 = .ok (.aload_n 0, 1) := by decide +kernel
theorem dX1_dropOld_8 : decode cX1_dropOld 8 = .ok (.getfield 27, 3) := by decide +kernel
theorem dX1_dropOld_11 : decode cX1_dropOld 11 = .ok (.if_icmp .ge 32, 3) := by decide +kernel
theorem dX1_dropOld_14 : decode cX1_dropOld 14 = .ok (.iload_n 1, 1) := by decide +kernel
theorem dX1_dropOld_15 : decode cX1_dropOld 15 = .ok (.aload_n 0, 1) := by decide +kernel
theorem dX1_dropOld_16 : decode cX1_dropOld 16 = .ok (.getfield 18, 3) := by decide +kernel
theorem dX1_dropOld_19 : decode cX1_dropOld 19 = .ok (.iload 4, 2) := by decide +kernel
theorem dX1_dropOld_21 : decode cX1_dropOld 21 = .ok (.iaload, 1) := by decide +kernel
theorem dX1_dropOld_22 : decode cX1_dropOld 22 = .ok (.isub, 1) := by decide +kernel
theorem dX1_dropOld_23 : decode cX1_dropOld 23 = .ok (.iload_n 2, 1) := by decide +kernel
theorem dX1_dropOld_24 : decode cX1_dropOld 24 = .ok (.if_icmp .gt 13, 3) := by decide +kernel
theorem dX1_dropOld_27 : decode cX1_dropOld 27 = .ok (.aload_n 0, 1) := by decide +kernel
theorem dX1_dropOld_28 : decode cX1_dropOld 28 = .ok (.iload 4, 2) := by decide +kernel
theorem dX1_dropOld_30 : decode cX1_dropOld 30 = .ok (.iload_n 3, 1) := by decide +kernel
theorem dX1_dropOld_31 : decode cX1_dropOld 31 = .ok (.invokevirtual 43, 3) := by decide +kernel
theorem dX1_dropOld_34 : decode cX1_dropOld 34 = .ok (.iinc 3 1, 3) := by decide +kernel
theorem dX1_dropOld_37 : decode cX1_dropOld 37 = .ok (.iinc 4 1, 3) := by decide +kernel
theorem dX1_dropOld_40 : decode cX1_dropOld 40 = .ok (.goto (-35), 3) := by decide +kernel
theorem dX1_dropOld_43 : decode cX1_dropOld 43 = .ok (.aload_n 0, 1) := by decide +kernel
theorem dX1_dropOld_44 : decode cX1_dropOld 44 = .ok (.iload_n 3, 1) := by decide +kernel
theorem dX1_dropOld_45 : decode cX1_dropOld 45 = .ok (.putfield 27, 3) := by decide +kernel
theorem dX1_dropOld_48 : decode cX1_dropOld 48 = .ok (.return_, 1) := by decide +kernel
theorem dX1_move_0 : decode cX1_move 0 = .ok (.iload_n 1, 1) := by decide +kernel
theorem dX1_move_1 : decode cX1_move 1 = .ok (.ifCond .lt 55, 3) := by decide +kernel
theorem dX1_move_4 : decode cX1_move 4 = .ok (.iload_n 1, 1) := by decide +kernel
theorem dX1_move_5 : decode cX1_move 5 = .ok (.bipush 16, 2) := by decide +kernel
theorem dX1_move_7 : decode cX1_move 7 = .ok (.if_icmp .ge 49, 3) := by decide +kernel
theorem dX1_move_10 : decode cX1_move 10 = .ok (.iload_n 2, 1) := by decide +kernel
theorem dX1_move_11 : decode cX1_move 11 = .ok (.ifCond .lt 45, 3) := by decide +kernel
theorem dX1_move_14 : decode cX1_move 14 = .ok (.iload_n 2, 1) := by decide +kernel
theorem dX1_move_15 : decode cX1_move 15 = .ok (.bipush 16, 2) := by decide +kernel
theorem dX1_move_17 : decode cX1_move 17 = .ok (.if_icmp .ge 39, 3) := by decide +kernel
theorem dX1_move_20 : decode cX1_move 20 = .ok (.aload_n 0, 1) := by decide +kernel
theorem dX1_move_21 : decode cX1_move 21 = .ok (.getfield 9, 3) := by decide +kernel
theorem dX1_move_24 : decode cX1_move 24 = .ok (.iload_n 2, 1) := by decide +kernel
theorem dX1_move_25 : decode cX1_move 25 = .ok (.aload_n 0, 1) := by decide +kernel
theorem dX1_move_26 : decode cX1_move 26 = .ok (.getfield 9, 3) := by decide +kernel
theorem dX1_move_29 : decode cX1_move 29 = .ok (.iload_n 1, 1) := by decide +kernel
theorem dX1_move_30 : decode cX1_move 30 = .ok (.iaload, 1) := by decide +kernel
theorem dX1_move_31 : decode cX1_move 31 = .ok (.iastore, 1) := by decide +kernel
theorem dX1_move_32 : decode cX1_move 32 = .ok (.aload_n 0, 1) := by decide +kernel
theorem dX1_move_33 : decode cX1_move 33 = .ok (.getfield 15, 3) := by decide +kernel
theorem dX1_move_36 : decode cX1_move 36 = .ok (.iload_n 2, 1) := by decide +kernel
theorem dX1_move_37 : decode cX1_move 37 = .ok (.aload_n 0, 1) := by decide +kernel
theorem dX1_move_38 : decode cX1_move 38 = .ok (.getfield 15, 3) := by decide +kernel
theorem dX1_move_41 : decode cX1_move 41 = .ok (.iload_n 1, 1) := by decide +kernel
theorem dX1_move_42 : decode cX1_move 42 = .ok (.iaload, 1) := by decide +kernel
theorem dX1_move_43 : decode cX1_move 43 = .ok (.iastore, 1) := by decide +kernel
theorem dX1_move_44 : decode cX1_move 44 = .ok (.aload_n 0, 1) := by decide +kernel
theorem dX1_move_45 : decode cX1_move 45 = .ok (.getfield 18, 3) := by decide +kernel
theorem dX1_move_48 : decode cX1_move 48 = .ok (.iload_n 2, 1) := by decide +kernel
theorem dX1_move_49 : decode cX1_move 49 = .ok (.aload_n 0, 1) := by decide +kernel
theorem dX1_move_50 : decode cX1_move 50 = .ok (.getfield 18, 3) := by decide +kernel
theorem dX1_move_53 : decode cX1_move 53 = .ok (.iload_n 1, 1) := by decide +kernel
theorem dX1_move_54 : decode cX1_move 54 = .ok (.iaload, 1) := by decide +kernel
theorem dX1_move_55 : decode cX1_move 55 = .ok (.iastore, 1) := by decide +kernel
theorem dX1_move_56 : decode cX1_move 56 = .ok (.return_, 1) := by decide +kernel
theorem dX2_init_0 : decode cX2_init 0 = .ok (.aload_n 0, 1) := by decide +kernel
theorem dX2_init_1 : decode cX2_init 1 = .ok (.invokespecial 3, 3) := by decide +kernel
theorem dX2_init_4 : decode cX2_init 4 = .ok (.aload_n 0, 1) := by decide +kernel
theorem dX2_init_5 : decode cX2_init 5 = .ok (.iconst 2, 1) := by decide +kernel
theorem dX2_init_6 : decode cX2_init 6 = .ok (.newarray .int, 2) := by decide +kernel
theorem dX2_init_8 : decode cX2_init 8 = .ok (.putfield 9, 3) := by decide +kernel
theorem dX2_init_11 : decode cX2_init 11 = .ok (.return_, 1) := by decide +kernel
theorem dX2_copyFrom_0 : decode cX2_copyFrom 0 = .ok (.aload_n 1, 1) := by decide +kernel
theorem dX2_copyFrom_1 : decode cX2_copyFrom 1 = .ok (.getfield 9, 3) := by decide +kernel
theorem dX2_copyFrom_4 : decode cX2_copyFrom 4 = .ok (.iconst 0, 1) := by decide +kernel
theorem dX2_copyFrom_5 : decode cX2_copyFrom 5 = .ok (.aload_n 0, 1) := by decide +kernel
theorem dX2_copyFrom_6 : decode cX2_copyFrom 6 = .ok (.getfield 9, 3) := by decide +kernel
theorem dX2_copyFrom_9 : decode cX2_copyFrom 9 = .ok (.iconst 0, 1) := by decide +kernel
theorem dX2_copyFrom_10 : decode cX2_copyFrom 10 = .ok (.iconst 2, 1) := by decide +kernel
theorem dX2_copyFrom_11 : decode cX2_copyFrom 11 = .ok (.invokestatic 15, 3) := by decide +kernel
theorem dX2_copyFrom_14 : decode cX2_copyFrom 14 = .ok (.aload_n 0, 1) := by decide +kernel
theorem dX2_copyFrom_15 : decode cX2_copyFrom 15 = .ok (.aload_n 1, 1) := by decide +kernel
theorem dX2_copyFrom_16 : decode cX2_copyFrom 16 = .ok (.getfield 21, 3) := by decide +kernel
theorem dX2_copyFrom_19 : decode cX2_copyFrom 19 = .ok (.putfield 21, 3) := by decide +kernel
theorem dX2_copyFrom_22 : decode cX2_copyFrom 22 = .ok (.return_, 1) := by decide +kernel
theorem dX2_clear_0 : decode cX2_clear 0 = .ok (.aload_n 0, 1) := by decide +kernel
theorem dX2_clear_1 : decode cX2_clear 1 = .ok (.iconst 0, 1) := by decide +kernel
theorem dX2_clear_2 : decode cX2_clear 2 = .ok (.putfield 21, 3) := by decide +kernel
theorem dX2_clear_5 : decode cX2_clear 5 = .ok (.return_, 1) := by decide +kernel
theorem dX2_add_0 : decode cX2_add 0 = .ok (.aload_n 0, 1) := by decide +kernel
theorem dX2_add_1 : decode cX2_add 1 = .ok (.getfield 21, 3) := by decide +kernel
theorem dX2_add_4 : decode cX2_add 4 = .ok (.iconst 2, 1) := by decide +kernel
theorem dX2_add_5 : decode cX2_add 5 = .ok (.if_icmp .ge 23, 3) := by decide +kernel
theorem dX2_add_8 : decode cX2_add 8 = .ok (.aload_n 0, 1) := by decide +kernel
theorem dX2_add_9 : decode cX2_add 9 = .ok (.getfield 9, 3) := by decide +kernel
theorem dX2_add_12 : decode cX2_add 12 = .ok (.aload_n 0, 1) := by decide +kernel
theorem dX2_add_13 : decode cX2_add 13 = .ok (.getfield 21, 3) := by decide +kernel
theorem dX2_add_16 : decode cX2_add 16 = .ok (.iload_n 1, 1) := by decide +kernel
theorem dX2_add_17 : decode cX2_add 17 = .ok (.iastore, 1) := by decide +kernel
theorem dX2_add_18 : decode cX2_add 18 = .ok (.aload_n 0, 1) := by decide +kernel
theorem dX2_add_19 : decode cX2_add 19 = .ok (.dup, 1) := by decide +kernel
theorem dX2_add_20 : decode cX2_add 20 = .ok (.getfield 21, 3) := by decide +kernel
theorem dX2_add_23 : decode cX2_add 23 = .ok (.iconst 1, 1) := by decide +kernel
theorem dX2_add_24 : decode cX2_add 24 = .ok (.iadd, 1) := by decide +kernel
theorem dX2_add_25 : decode cX2_add 25 = .ok (.putfield 21, 3) := by decide +kernel
theorem dX2_add_28 : decode cX2_add 28 = .ok (.return_, 1) := by decide +kernel
theorem dX2_has_0 : decode cX2_has 0 = .ok (.iconst 0, 1) := by decide +kernel
theorem dX2_has_1 : decode cX2_has 1 = .ok (.istore_n 2, 1) := by decide +kernel
theorem dX2_has_2 : decode cX2_has 2 = .ok (.iload_n 2, 1) := by decide +kernel
theorem dX2_has_3 : decode cX2_has 3 = .ok (.aload_n 0, 1) := by decide +kernel
theorem dX2_has_4 : decode cX2_has 4 = .ok (.getfield 21, 3) := by decide +kernel
theorem dX2_has_7 : decode cX2_has 7 = .ok (.if_icmp .ge 21, 3) := by decide +kernel
theorem dX2_has_10 : decode cX2_has 10 = .ok (.aload_n 0, 1) := by decide +kernel
theorem dX2_has_11 : decode cX2_has 11 = .ok (.getfield 9, 3) := by decide +kernel
theorem dX2_has_14 : decode cX2_has 14 = .ok (.iload_n 2, 1) := by decide +kernel
theorem dX2_has_15 : decode cX2_has 15 = .ok (.iaload, 1) := by decide +kernel
theorem dX2_has_16 : decode cX2_has 16 = .ok (.iload_n 1, 1) := by decide +kernel
theorem dX2_has_17 : decode cX2_has 17 = .ok (.if_icmp .ne 5, 3) := by decide +kernel
theorem dX2_has_20 : decode cX2_has 20 = .ok (.iconst 1, 1) := by decide +kernel
theorem dX2_has_21 : decode cX2_has 21 = .ok (.ireturn, 1) := by decide +kernel
theorem dX2_has_22 : decode cX2_has 22 = .ok (.iinc 2 1, 3) := by decide +kernel
theorem dX2_has_25 : decode cX2_has 25 = .ok (.goto (-23), 3) := by decide +kernel
theorem dX2_has_28 : decode cX2_has 28 = .ok (.iconst 0, 1) := by decide +kernel
theorem dX2_has_29 : decode cX2_has 29 = .ok (.ireturn, 1) := by decide +kernel
theorem dX3_init_0 : decode cX3_init 0 = .ok (.aload_n 0, 1) := by decide +kernel
theorem dX3_init_1 : decode cX3_init 1 = .ok (.invokespecial 3, 3) := by decide +kernel
theorem dX3_init_4 : decode cX3_init 4 = .ok (.aload_n 0, 1) := by decide +kernel
theorem dX3_init_5 : decode cX3_init 5 = .ok (.bipush 6, 2) := by decide +kernel
theorem dX3_init_7 : decode cX3_init 7 = .ok (.anewarray 9, 3) := by decide +kernel
theorem dX3_init_10 : decode cX3_init 10 = .ok (.putfield 11, 3) := by decide +kernel
theorem dX3_init_13 : decode cX3_init 13 = .ok (.aload_n 0, 1) := by decide +kernel
theorem dX3_init_14 : decode cX3_init 14 = .ok (.bipush 6, 2) := by decide +kernel
theorem dX3_init_16 : decode cX3_init 16 = .ok (.newarray .int, 2) := by decide +kernel
theorem dX3_init_18 : decode cX3_init 18 = .ok (.putfield 17, 3) := by decide +kernel
theorem dX3_init_21 : decode cX3_init 21 = .ok (.iconst 0, 1) := by decide +kernel
theorem dX3_init_22 : decode cX3_init 22 = .ok (.istore_n 1, 1) := by decide +kernel
theorem dX3_init_23 : decode cX3_init 23 = .ok (.iload_n 1, 1) := by decide +kernel
theorem dX3_init_24 : decode cX3_init 24 = .ok (.bipush 6, 2) := by decide +kernel
theorem dX3_init_26 : decode cX3_init 26 = .ok (.if_icmp .ge 25, 3) := by decide +kernel
theorem dX3_init_29 : decode cX3_init 29 = .ok (.aload_n 0, 1) := by decide +kernel
theorem dX3_init_30 : decode cX3_init 30 = .ok (.getfield 11, 3) := by decide +kernel
theorem dX3_init_33 : decode cX3_init 33 = .ok (.iload_n 1, 1) := by decide +kernel
theorem dX3_init_34 : decode cX3_init 34 = .ok (.new 9, 3) := by decide +kernel
theorem dX3_init_37 : decode cX3_init 37 = .ok (.dup, 1) := by decide +kernel
theorem dX3_init_38 : decode cX3_init 38 = .ok (.iload_n 1, 1) := by decide +kernel
theorem dX3_init_39 : decode cX3_init 39 = .ok (.iconst 1, 1) := by decide +kernel
theorem dX3_init_40 : decode cX3_init 40 = .ok (.iadd, 1) := by decide +kernel
theorem dX3_init_41 : decode cX3_init 41 = .ok (.invokespecial 21, 3) := by decide +kernel
theorem dX3_init_44 : decode cX3_init 44 = .ok (.aastore, 1) := by decide +kernel
theorem dX3_init_45 : decode cX3_init 45 = .ok (.iinc 1 1, 3) := by decide +kernel
theorem dX3_init_48 : decode cX3_init 48 = .ok (.goto (-25), 3) := by decide +kernel
theorem dX3_init_51 : decode cX3_init 51 = .ok (.return_, 1) := by decide +kernel
theorem dX3_copyFrom_0 : decode cX3_copyFrom 0 = .ok (.iconst 0, 1) := by decide +kernel
theorem dX3_copyFrom_1 : decode cX3_copyFrom 1 = .ok (.istore_n 2, 1) := by decide +kernel
theorem dX3_copyFrom_2 : decode cX3_copyFrom 2 = .ok (.iload_n 2, 1) := by decide +kernel
theorem dX3_copyFrom_3 : decode cX3_copyFrom 3 = .ok (.bipush 6, 2) := by decide +kernel
theorem dX3_copyFrom_5 : decode cX3_copyFrom 5 = .ok (.if_icmp .ge 36, 3) := by decide +kernel
theorem dX3_copyFrom_8 : decode cX3_copyFrom 8 = .ok (.aload_n 0, 1) := by decide +kernel
theorem dX3_copyFrom_9 : decode cX3_copyFrom 9 = .ok (.getfield 11, 3) := by decide +kernel
theorem dX3_copyFrom_12 : decode cX3_copyFrom 12 = .ok (.iload_n 2, 1) := by decide +kernel
theorem dX3_copyFrom_13 : decode cX3_copyFrom 13 = .ok (.aaload, 1) := by decide +kernel
theorem dX3_copyFrom_14 : decode cX3_copyFrom 14 = .ok (.aload_n 1, 1) := by decide +kernel
theorem dX3_copyFrom_15 : decode cX3_copyFrom 15 = .ok (.getfield 11, 3) := by decide +kernel
theorem dX3_copyFrom_18 : decode cX3_copyFrom 18 = .ok (.iload_n 2, 1) := by decide +kernel
theorem dX3_copyFrom_19 : decode cX3_copyFrom 19 = .ok (.aaload, 1) := by decide +kernel
theorem dX3_copyFrom_20 : decode cX3_copyFrom 20 = .ok (.invokevirtual 24, 3) := by decide +kernel
theorem dX3_copyFrom_23 : decode cX3_copyFrom 23 = .ok (.aload_n 0, 1) := by decide +kernel
theorem dX3_copyFrom_24 : decode cX3_copyFrom 24 = .ok (.getfield 17, 3) := by decide +kernel
theorem dX3_copyFrom_27 : decode cX3_copyFrom 27 = .ok (.iload_n 2, 1) := by decide +kernel
theorem dX3_copyFrom_28 : decode cX3_copyFrom 28 = .ok (.aload_n 1, 1) := by decide +kernel
theorem dX3_copyFrom_29 : decode cX3_copyFrom 29 = .ok (.getfield 17, 3) := by decide +kernel
theorem dX3_copyFrom_32 : decode cX3_copyFrom 32 = .ok (.iload_n 2, 1) := by decide +kernel
theorem dX3_copyFrom_33 : decode cX3_copyFrom 33 = .ok (.iaload, 1) := by decide +kernel
theorem dX3_copyFrom_34 : decode cX3_copyFrom 34 = .ok (.iastore, 1) := by decide +kernel
theorem dX3_copyFrom_35 : decode cX3_copyFrom 35 = .ok (.iinc 2 1, 3) := by decide +kernel
theorem dX3_copyFrom_38 : decode cX3_copyFrom 38 = .ok (.goto (-36), 3) := by decide +kernel
theorem dX3_copyFrom_41 : decode cX3_copyFrom 41 = .ok (.aload_n 0, 1) := by decide +kernel
theorem dX3_copyFrom_42 : decode cX3_copyFrom 42 = .ok (.aload_n 1, 1) := by decide +kernel
theorem dX3_copyFrom_43 : decode cX3_copyFrom 43 = .ok (.getfield 28, 3) := by decide +kernel
theorem dX3_copyFrom_46 : decode cX3_copyFrom 46 = .ok (.putfield 28, 3) := by decide +kernel
theorem dX3_copyFrom_49 : decode cX3_copyFrom 49 = .ok (.return_, 1) := by decide +kernel
theorem dX3_beginLike_0 : decode cX3_beginLike 0 = .ok (.iconst 0, 1) := by decide +kernel
theorem dX3_beginLike_1 : decode cX3_beginLike 1 = .ok (.istore_n 2, 1) := by decide +kernel
theorem dX3_beginLike_2 : decode cX3_beginLike 2 = .ok (.iload_n 2, 1) := by decide +kernel
theorem dX3_beginLike_3 : decode cX3_beginLike 3 = .ok (.bipush 6, 2) := by decide +kernel
theorem dX3_beginLike_5 : decode cX3_beginLike 5 = .ok (.if_icmp .ge 36, 3) := by decide +kernel
theorem dX3_beginLike_8 : decode cX3_beginLike 8 = .ok (.aload_n 0, 1) := by decide +kernel
theorem dX3_beginLike_9 : decode cX3_beginLike 9 = .ok (.getfield 11, 3) := by decide +kernel
theorem dX3_beginLike_12 : decode cX3_beginLike 12 = .ok (.iload_n 2, 1) := by decide +kernel
theorem dX3_beginLike_13 : decode cX3_beginLike 13 = .ok (.aaload, 1) := by decide +kernel
theorem dX3_beginLike_14 : decode cX3_beginLike 14 = .ok (.aload_n 1, 1) := by decide +kernel
theorem dX3_beginLike_15 : decode cX3_beginLike 15 = .ok (.getfield 11, 3) := by decide +kernel
theorem dX3_beginLike_18 : decode cX3_beginLike 18 = .ok (.iload_n 2, 1) := by decide +kernel
theorem dX3_beginLike_19 : decode cX3_beginLike 19 = .ok (.aaload, 1) := by decide +kernel
theorem dX3_beginLike_20 : decode cX3_beginLike 20 = .ok (.invokevirtual 32, 3) := by decide +kernel
theorem dX3_beginLike_23 : decode cX3_beginLike 23 = .ok (.aload_n 0, 1) := by decide +kernel
theorem dX3_beginLike_24 : decode cX3_beginLike 24 = .ok (.getfield 17, 3) := by decide +kernel
theorem dX3_beginLike_27 : decode cX3_beginLike 27 = .ok (.iload_n 2, 1) := by decide +kernel
theorem dX3_beginLike_28 : decode cX3_beginLike 28 = .ok (.aload_n 1, 1) := by decide +kernel
theorem dX3_beginLike_29 : decode cX3_beginLike 29 = .ok (.getfield 17, 3) := by decide +kernel
theorem dX3_beginLike_32 : decode cX3_beginLike 32 = .ok (.iload_n 2, 1) := by decide +kernel
theorem dX3_beginLike_33 : decode cX3_beginLike 33 = .ok (.iaload, 1) := by decide +kernel
theorem dX3_beginLike_34 : decode cX3_beginLike 34 = .ok (.iastore, 1) := by decide +kernel
theorem dX3_beginLike_35 : decode cX3_beginLike 35 = .ok (.iinc 2 1, 3) := by decide +kernel
theorem dX3_beginLike_38 : decode cX3_beginLike 38 = .ok (.goto (-36), 3) := by decide +kernel
theorem dX3_beginLike_41 : decode cX3_beginLike 41 = .ok (.aload_n 0, 1) := by decide +kernel
theorem dX3_beginLike_42 : decode cX3_beginLike 42 = .ok (.iconst 0, 1) := by decide +kernel
theorem dX3_beginLike_43 : decode cX3_beginLike 43 = .ok (.putfield 28, 3) := by decide +kernel
theorem dX3_beginLike_46 : decode cX3_beginLike 46 = .ok (.return_, 1) := by decide +kernel
theorem dX3_join_0 : decode cX3_join 0 = .ok (.iload_n 1, 1) := by decide +kernel
theorem dX3_join_1 : decode cX3_join 1 = .ok (.invokestatic 35, 3) := by decide +kernel
theorem dX3_join_4 : decode cX3_join 4 = .ok (.ifCond .eq 10, 3) := by decide +kernel
theorem dX3_join_7 : decode cX3_join 7 = .ok (.iload_n 2, 1) := by decide +kernel
theorem dX3_join_8 : decode cX3_join 8 = .ok (.invokestatic 35, 3) := by decide +kernel
theorem dX3_join_11 : decode cX3_join 11 = .ok (.ifCond .ne 4, 3) := by decide +kernel
theorem dX3_join_14 : decode cX3_join 14 = .ok (.return_, 1) := by decide +kernel
theorem dX3_join_15 : decode cX3_join 15 = .ok (.iload_n 3, 1) := by decide +kernel
theorem dX3_join_16 : decode cX3_join 16 = .ok (.ifCond .eq 30, 3) := by decide +kernel
theorem dX3_join_19 : decode cX3_join 19 = .ok (.aload_n 0, 1) := by decide +kernel
theorem dX3_join_20 : decode cX3_join 20 = .ok (.getfield 17, 3) := by decide +kernel
theorem dX3_join_23 : decode cX3_join 23 = .ok (.iload_n 1, 1) := by decide +kernel
theorem dX3_join_24 : decode cX3_join 24 = .ok (.dup2, 1) := by decide +kernel
theorem dX3_join_25 : decode cX3_join 25 = .ok (.iaload, 1) := by decide +kernel
theorem dX3_join_26 : decode cX3_join 26 = .ok (.iconst 1, 1) := by decide +kernel
theorem dX3_join_27 : decode cX3_join 27 = .ok (.iload_n 2, 1) := by decide +kernel
theorem dX3_join_28 : decode cX3_join 28 = .ok (.ishl, 1) := by decide +kernel
theorem dX3_join_29 : decode cX3_join 29 = .ok (.ior, 1) := by decide +kernel
theorem dX3_join_30 : decode cX3_join 30 = .ok (.iastore, 1) := by decide +kernel
theorem dX3_join_31 : decode cX3_join 31 = .ok (.aload_n 0, 1) := by decide +kernel
theorem dX3_join_32 : decode cX3_join 32 = .ok (.getfield 17, 3) := by decide +kernel
theorem dX3_join_35 : decode cX3_join 35 = .ok (.iload_n 2, 1) := by decide +kernel
theorem dX3_join_36 : decode cX3_join 36 = .ok (.dup2, 1) := by decide +kernel
theorem dX3_join_37 : decode cX3_join 37 = .ok (.iaload, 1) := by decide +kernel
theorem dX3_join_38 : decode cX3_join 38 = .ok (.iconst 1, 1) := by decide +kernel
theorem dX3_join_39 : decode cX3_join 39 = .ok (.iload_n 1, 1) := by decide +kernel
theorem dX3_join_40 : decode cX3_join 40 = .ok (.ishl, 1) := by decide +kernel
theorem dX3_join_41 : decode cX3_join 41 = .ok (.ior, 1) := by decide +kernel
theorem dX3_join_42 : decode cX3_join 42 = .ok (.iastore, 1) := by decide +kernel
theorem dX3_join_43 : decode cX3_join 43 = .ok (.goto 31, 3) := by decide +kernel
theorem dX3_join_46 : decode cX3_join 46 = .ok (.aload_n 0, 1) := by decide +kernel
theorem dX3_join_47 : decode cX3_join 47 = .ok (.getfield 17, 3) := by decide +kernel
theorem dX3_join_50 : decode cX3_join 50 = .ok (.iload_n 1, 1) := by decide +kernel
theorem dX3_join_51 : decode cX3_join 51 = .ok (.dup2, 1) := by decide +kernel
theorem dX3_join_52 : decode cX3_join 52 = .ok (.iaload, 1) := by decide +kernel
theorem dX3_join_53 : decode cX3_join 53 = .ok (.iconst 1, 1) := by decide +kernel
theorem dX3_join_54 : decode cX3_join 54 = .ok (.iload_n 2, 1) := by decide +kernel
theorem dX3_join_55 : decode cX3_join 55 = .ok (.ishl, 1) := by decide +kernel
theorem dX3_join_56 : decode cX3_join 56 = .ok (.iconst (-1), 1) := by decide +kernel
theorem dX3_join_57 : decode cX3_join 57 = .ok (.ixor, 1) := by decide +kernel
theorem dX3_join_58 : decode cX3_join 58 = .ok (.iand, 1) := by decide +kernel
theorem dX3_join_59 : decode cX3_join 59 = .ok (.iastore, 1) := by decide +kernel
theorem dX3_join_60 : decode cX3_join 60 = .ok (.aload_n 0, 1) := by decide +kernel
theorem dX3_join_61 : decode cX3_join 61 = .ok (.getfield 17, 3) := by decide +kernel
theorem dX3_join_64 : decode cX3_join 64 = .ok (.iload_n 2, 1) := by decide +kernel
theorem dX3_join_65 : decode cX3_join 65 = .ok (.dup2, 1) := by decide +kernel
theorem dX3_join_66 : decode cX3_join 66 = .ok (.iaload, 1) := by decide +kernel
theorem dX3_join_67 : decode cX3_join 67 = .ok (.iconst 1, 1) := by decide +kernel
theorem dX3_join_68 : decode cX3_join 68 = .ok (.iload_n 1, 1) := by decide +kernel
theorem dX3_join_69 : decode cX3_join 69 = .ok (.ishl, 1) := by decide +kernel
theorem dX3_join_70 : decode cX3_join 70 = .ok (.iconst (-1), 1) := by decide +kernel
theorem dX3_join_71 : decode cX3_join 71 = .ok (.ixor, 1) := by decide +kernel
theorem dX3_join_72 : decode cX3_join 72 = .ok (.iand, 1) := by decide +kernel
theorem dX3_join_73 : decode cX3_join 73 = .ok (.iastore, 1) := by decide +kernel
theorem dX3_join_74 : decode cX3_join 74 = .ok (.return_, 1) := by decide +kernel
theorem dX3_isolate_0 : decode cX3_isolate 0 = .ok (.iconst 0, 1) := by decide +kernel
theorem dX3_isolate_1 : decode cX3_isolate 1 = .ok (.istore_n 2, 1) := by decide +kernel
theorem dX3_isolate_2 : decode cX3_isolate 2 = .ok (.iload_n 2, 1) := by decide +kernel
theorem dX3_isolate_3 : decode cX3_isolate 3 = .ok (.bipush 6, 2) := by decide +kernel
theorem dX3_isolate_5 : decode cX3_isolate 5 = .ok (.if_icmp .ge 38, 3) := by decide +kernel
theorem dX3_isolate_8 : decode cX3_isolate 8 = .ok (.iload_n 2, 1) := by decide +kernel
theorem dX3_isolate_9 : decode cX3_isolate 9 = .ok (.iload_n 1, 1) := by decide +kernel
theorem dX3_isolate_10 : decode cX3_isolate 10 = .ok (.if_icmp .ne 13, 3) := by decide +kernel
theorem dX3_isolate_13 : decode cX3_isolate 13 = .ok (.aload_n 0, 1) := by decide +kernel
theorem dX3_isolate_14 : decode cX3_isolate 14 = .ok (.getfield 17, 3) := by decide +kernel
theorem dX3_isolate_17 : decode cX3_isolate 17 = .ok (.iload_n 2, 1) := by decide +kernel
theorem dX3_isolate_18 : decode cX3_isolate 18 = .ok (.iconst 0, 1) := by decide +kernel
theorem dX3_isolate_19 : decode cX3_isolate 19 = .ok (.iastore, 1) := by decide +kernel
theorem dX3_isolate_20 : decode cX3_isolate 20 = .ok (.goto 17, 3) := by decide +kernel
theorem dX3_isolate_23 : decode cX3_isolate 23 = .ok (.aload_n 0, 1) := by decide +kernel
theorem dX3_isolate_24 : decode cX3_isolate 24 = .ok (.getfield 17, 3) := by decide +kernel
theorem dX3_isolate_27 : decode cX3_isolate 27 = .ok (.iload_n 2, 1) := by decide +kernel
theorem dX3_isolate_28 : decode cX3_isolate 28 = .ok (.dup2, 1) := by decide +kernel
theorem dX3_isolate_29 : decode cX3_isolate 29 = .ok (.iaload, 1) := by decide +kernel
theorem dX3_isolate_30 : decode cX3_isolate 30 = .ok (.iconst 1, 1) := by decide +kernel
theorem dX3_isolate_31 : decode cX3_isolate 31 = .ok (.iload_n 1, 1) := by decide +kernel
theorem dX3_isolate_32 : decode cX3_isolate 32 = .ok (.ishl, 1) := by decide +kernel
theorem dX3_isolate_33 : decode cX3_isolate 33 = .ok (.iconst (-1), 1) := by decide +kernel
theorem dX3_isolate_34 : decode cX3_isolate 34 = .ok (.ixor, 1) := by decide +kernel
theorem dX3_isolate_35 : decode cX3_isolate 35 = .ok (.iand, 1) := by decide +kernel
theorem dX3_isolate_36 : decode cX3_isolate 36 = .ok (.iastore, 1) := by decide +kernel
theorem dX3_isolate_37 : decode cX3_isolate 37 = .ok (.iinc 2 1, 3) := by decide +kernel
theorem dX3_isolate_40 : decode cX3_isolate 40 = .ok (.goto (-38), 3) := by decide +kernel
theorem dX3_isolate_43 : decode cX3_isolate 43 = .ok (.return_, 1) := by decide +kernel
theorem dX3_passTick_0 : decode cX3_passTick 0 = .ok (.iconst 0, 1) := by decide +kernel
theorem dX3_passTick_1 : decode cX3_passTick 1 = .ok (.istore_n 1, 1) := by decide +kernel
theorem dX3_passTick_2 : decode cX3_passTick 2 = .ok (.iconst 0, 1) := by decide +kernel
theorem dX3_passTick_3 : decode cX3_passTick 3 = .ok (.istore_n 2, 1) := by decide +kernel
theorem dX3_passTick_4 : decode cX3_passTick 4 = .ok (.iload_n 2, 1) := by decide +kernel
theorem dX3_passTick_5 : decode cX3_passTick 5 = .ok (.bipush 6, 2) := by decide +kernel
theorem dX3_passTick_7 : decode cX3_passTick 7 = .ok (.if_icmp .ge 31, 3) := by decide +kernel
theorem dX3_passTick_10 : decode cX3_passTick 10 = .ok (.aload_n 0, 1) := by decide +kernel
theorem dX3_passTick_11 : decode cX3_passTick 11 = .ok (.getfield 11, 3) := by decide +kernel
theorem dX3_passTick_14 : decode cX3_passTick 14 = .ok (.iload_n 2, 1) := by decide +kernel
theorem dX3_passTick_15 : decode cX3_passTick 15 = .ok (.aaload, 1) := by decide +kernel
theorem dX3_passTick_16 : decode cX3_passTick 16 = .ok (.aload_n 0, 1) := by decide +kernel
theorem dX3_passTick_17 : decode cX3_passTick 17 = .ok (.getfield 28, 3) := by decide +kernel
theorem dX3_passTick_20 : decode cX3_passTick 20 = .ok (.invokevirtual 39, 3) := by decide +kernel
theorem dX3_passTick_23 : decode cX3_passTick 23 = .ok (.ifCond .eq 9, 3) := by decide +kernel
theorem dX3_passTick_26 : decode cX3_passTick 26 = .ok (.iload_n 1, 1) := by decide +kernel
theorem dX3_passTick_27 : decode cX3_passTick 27 = .ok (.iconst 1, 1) := by decide +kernel
theorem dX3_passTick_28 : decode cX3_passTick 28 = .ok (.iload_n 2, 1) := by decide +kernel
theorem dX3_passTick_29 : decode cX3_passTick 29 = .ok (.ishl, 1) := by decide +kernel
theorem dX3_passTick_30 : decode cX3_passTick 30 = .ok (.ior, 1) := by decide +kernel
theorem dX3_passTick_31 : decode cX3_passTick 31 = .ok (.istore_n 1, 1) := by decide +kernel
theorem dX3_passTick_32 : decode cX3_passTick 32 = .ok (.iinc 2 1, 3) := by decide +kernel
theorem dX3_passTick_35 : decode cX3_passTick 35 = .ok (.goto (-31), 3) := by decide +kernel
theorem dX3_passTick_38 : decode cX3_passTick 38 = .ok (.iconst 0, 1) := by decide +kernel
theorem dX3_passTick_39 : decode cX3_passTick 39 = .ok (.istore_n 2, 1) := by decide +kernel
theorem dX3_passTick_40 : decode cX3_passTick 40 = .ok (.iload_n 2, 1) := by decide +kernel
theorem dX3_passTick_41 : decode cX3_passTick 41 = .ok (.bipush 6, 2) := by decide +kernel
theorem dX3_passTick_43 : decode cX3_passTick 43 = .ok (.if_icmp .ge 97, 3) := by decide +kernel
theorem dX3_passTick_46 : decode cX3_passTick 46 = .ok (.iload_n 1, 1) := by decide +kernel
theorem dX3_passTick_47 : decode cX3_passTick 47 = .ok (.ifCond .eq 93, 3) := by decide +kernel
theorem dX3_passTick_50 : decode cX3_passTick 50 = .ok (.iload_n 1, 1) := by decide +kernel
theorem dX3_passTick_51 : decode cX3_passTick 51 = .ok (.iload_n 2, 1) := by decide +kernel
theorem dX3_passTick_52 : decode cX3_passTick 52 = .ok (.invokestatic 42, 3) := by decide +kernel
theorem dX3_passTick_55 : decode cX3_passTick 55 = .ok (.ifCond .eq 7, 3) := by decide +kernel
theorem dX3_passTick_58 : decode cX3_passTick 58 = .ok (.iconst 0, 1) := by decide +kernel
theorem dX3_passTick_59 : decode cX3_passTick 59 = .ok (.goto 11, 3) := by decide +kernel
theorem dX3_passTick_62 : decode cX3_passTick 62 = .ok (.iload_n 1, 1) := by decide +kernel
theorem dX3_passTick_63 : decode cX3_passTick 63 = .ok (.aload_n 0, 1) := by decide +kernel
theorem dX3_passTick_64 : decode cX3_passTick 64 = .ok (.getfield 17, 3) := by decide +kernel
theorem dX3_passTick_67 : decode cX3_passTick 67 = .ok (.iload_n 2, 1) := by decide +kernel
theorem dX3_passTick_68 : decode cX3_passTick 68 = .ok (.iaload, 1) := by decide +kernel
theorem dX3_passTick_69 : decode cX3_passTick 69 = .ok (.iand, 1) := by decide +kernel
theorem dX3_passTick_70 : decode cX3_passTick 70 = .ok (.istore_n 3, 1) := by decide +kernel
theorem dX3_passTick_71 : decode cX3_passTick 71 = .ok (.iload_n 3, 1) := by decide +kernel
theorem dX3_passTick_72 : decode cX3_passTick 72 = .ok (.invokestatic 46, 3) := by decide +kernel
theorem dX3_passTick_75 : decode cX3_passTick 75 = .ok (.istore 4, 2) := by decide +kernel
theorem dX3_passTick_77 : decode cX3_passTick 77 = .ok (.iload_n 3, 1) := by decide +kernel
theorem dX3_passTick_78 : decode cX3_passTick 78 = .ok (.invokestatic 50, 3) := by decide +kernel
theorem dX3_passTick_81 : decode cX3_passTick 81 = .ok (.iconst 1, 1) := by decide +kernel
theorem dX3_passTick_82 : decode cX3_passTick 82 = .ok (.if_icmp .le 22, 3) := by decide +kernel
theorem dX3_passTick_85 : decode cX3_passTick 85 = .ok (.aload_n 0, 1) := by decide +kernel
theorem dX3_passTick_86 : decode cX3_passTick 86 = .ok (.getfield 11, 3) := by decide +kernel
theorem dX3_passTick_89 : decode cX3_passTick 89 = .ok (.iload_n 2, 1) := by decide +kernel
theorem dX3_passTick_90 : decode cX3_passTick 90 = .ok (.aaload, 1) := by decide +kernel
theorem dX3_passTick_91 : decode cX3_passTick 91 = .ok (.getfield 55, 3) := by decide +kernel
theorem dX3_passTick_94 : decode cX3_passTick 94 = .ok (.bipush 7, 2) := by decide +kernel
theorem dX3_passTick_96 : decode cX3_passTick 96 = .ok (.dup2, 1) := by decide +kernel
theorem dX3_passTick_97 : decode cX3_passTick 97 = .ok (.iaload, 1) := by decide +kernel
theorem dX3_passTick_98 : decode cX3_passTick 98 = .ok (.iconst 1, 1) := by decide +kernel
theorem dX3_passTick_99 : decode cX3_passTick 99 = .ok (.iadd, 1) := by decide +kernel
theorem dX3_passTick_100 : decode cX3_passTick 100 = .ok (.iastore, 1) := by decide +kernel
theorem dX3_passTick_101 : decode cX3_passTick 101 = .ok (.goto 33, 3) := by decide +kernel
theorem dX3_passTick_104 : decode cX3_passTick 104 = .ok (.iload 4, 2) := by decide +kernel
theorem dX3_passTick_106 : decode cX3_passTick 106 = .ok (.bipush (-6), 2) := by decide +kernel
theorem dX3_passTick_108 : decode cX3_passTick 108 = .ok (.if_icmp .eq 26, 3) := by decide +kernel
theorem dX3_passTick_111 : decode cX3_passTick 111 = .ok (.aload_n 0, 1) := by decide +kernel
theorem dX3_passTick_112 : decode cX3_passTick 112 = .ok (.getfield 11, 3) := by decide +kernel
theorem dX3_passTick_115 : decode cX3_passTick 115 = .ok (.iload_n 2, 1) := by decide +kernel
theorem dX3_passTick_116 : decode cX3_passTick 116 = .ok (.aaload, 1) := by decide +kernel
theorem dX3_passTick_117 : decode cX3_passTick 117 = .ok (.aload_n 0, 1) := by decide +kernel
theorem dX3_passTick_118 : decode cX3_passTick 118 = .ok (.getfield 11, 3) := by decide +kernel
theorem dX3_passTick_121 : decode cX3_passTick 121 = .ok (.iload 4, 2) := by decide +kernel
theorem dX3_passTick_123 : decode cX3_passTick 123 = .ok (.aaload, 1) := by decide +kernel
theorem dX3_passTick_124 : decode cX3_passTick 124 = .ok (.getfield 58, 3) := by decide +kernel
theorem dX3_passTick_127 : decode cX3_passTick 127 = .ok (.aload_n 0, 1) := by decide +kernel
theorem dX3_passTick_128 : decode cX3_passTick 128 = .ok (.getfield 28, 3) := by decide +kernel
theorem dX3_passTick_131 : decode cX3_passTick 131 = .ok (.invokevirtual 62, 3) := by decide +kernel
theorem dX3_passTick_134 : decode cX3_passTick 134 = .ok (.iinc 2 1, 3) := by decide +kernel
theorem dX3_passTick_137 : decode cX3_passTick 137 = .ok (.goto (-97), 3) := by decide +kernel
theorem dX3_passTick_140 : decode cX3_passTick 140 = .ok (.aload_n 0, 1) := by decide +kernel
theorem dX3_passTick_141 : decode cX3_passTick 141 = .ok (.dup, 1) := by decide +kernel
theorem dX3_passTick_142 : decode cX3_passTick 142 = .ok (.getfield 28, 3) := by decide +kernel
theorem dX3_passTick_145 : decode cX3_passTick 145 = .ok (.iconst 1, 1) := by decide +kernel
theorem dX3_passTick_146 : decode cX3_passTick 146 = .ok (.iadd, 1) := by decide +kernel
theorem dX3_passTick_147 : decode cX3_passTick 147 = .ok (.putfield 28, 3) := by decide +kernel
theorem dX3_passTick_150 : decode cX3_passTick 150 = .ok (.return_, 1) := by decide +kernel
theorem dX3_firstIn_0 : decode cX3_firstIn 0 = .ok (.iconst 0, 1) := by decide +kernel
theorem dX3_firstIn_1 : decode cX3_firstIn 1 = .ok (.istore_n 1, 1) := by decide +kernel
theorem dX3_firstIn_2 : decode cX3_firstIn 2 = .ok (.iload_n 1, 1) := by decide +kernel
theorem dX3_firstIn_3 : decode cX3_firstIn 3 = .ok (.bipush 6, 2) := by decide +kernel
theorem dX3_firstIn_5 : decode cX3_firstIn 5 = .ok (.if_icmp .ge 19, 3) := by decide +kernel
theorem dX3_firstIn_8 : decode cX3_firstIn 8 = .ok (.iload_n 0, 1) := by decide +kernel
theorem dX3_firstIn_9 : decode cX3_firstIn 9 = .ok (.iload_n 1, 1) := by decide +kernel
theorem dX3_firstIn_10 : decode cX3_firstIn 10 = .ok (.invokestatic 42, 3) := by decide +kernel
theorem dX3_firstIn_13 : decode cX3_firstIn 13 = .ok (.ifCond .eq 5, 3) := by decide +kernel
theorem dX3_firstIn_16 : decode cX3_firstIn 16 = .ok (.iload_n 1, 1) := by decide +kernel
theorem dX3_firstIn_17 : decode cX3_firstIn 17 = .ok (.ireturn, 1) := by decide +kernel
theorem dX3_firstIn_18 : decode cX3_firstIn 18 = .ok (.iinc 1 1, 3) := by decide +kernel
theorem dX3_firstIn_21 : decode cX3_firstIn 21 = .ok (.goto (-19), 3) := by decide +kernel
theorem dX3_firstIn_24 : decode cX3_firstIn 24 = .ok (.bipush (-6), 2) := by decide +kernel
theorem dX3_firstIn_26 : decode cX3_firstIn 26 = .ok (.ireturn, 1) := by decide +kernel
theorem dX3_stationCalled_0 : decode cX3_stationCalled 0 = .ok (.iconst 0, 1) := by decide +kernel
theorem dX3_stationCalled_1 : decode cX3_stationCalled 1 = .ok (.istore_n 2, 1) := by decide +kernel
theorem dX3_stationCalled_2 : decode cX3_stationCalled 2 = .ok (.iload_n 2, 1) := by decide +kernel
theorem dX3_stationCalled_3 : decode cX3_stationCalled 3 = .ok (.bipush 6, 2) := by decide +kernel
theorem dX3_stationCalled_5 : decode cX3_stationCalled 5 = .ok (.if_icmp .ge 24, 3) := by decide +kernel
theorem dX3_stationCalled_8 : decode cX3_stationCalled 8 = .ok (.aload_n 0, 1) := by decide +kernel
theorem dX3_stationCalled_9 : decode cX3_stationCalled 9 = .ok (.getfield 11, 3) := by decide +kernel
theorem dX3_stationCalled_12 : decode cX3_stationCalled 12 = .ok (.iload_n 2, 1) := by decide +kernel
theorem dX3_stationCalled_13 : decode cX3_stationCalled 13 = .ok (.aaload, 1) := by decide +kernel
theorem dX3_stationCalled_14 : decode cX3_stationCalled 14 = .ok (.getfield 66, 3) := by decide +kernel
theorem dX3_stationCalled_17 : decode cX3_stationCalled 17 = .ok (.iload_n 1, 1) := by decide +kernel
theorem dX3_stationCalled_18 : decode cX3_stationCalled 18 = .ok (.if_icmp .ne 5, 3) := by decide +kernel
theorem dX3_stationCalled_21 : decode cX3_stationCalled 21 = .ok (.iload_n 2, 1) := by decide +kernel
theorem dX3_stationCalled_22 : decode cX3_stationCalled 22 = .ok (.ireturn, 1) := by decide +kernel
theorem dX3_stationCalled_23 : decode cX3_stationCalled 23 = .ok (.iinc 2 1, 3) := by decide +kernel
theorem dX3_stationCalled_26 : decode cX3_stationCalled 26 = .ok (.goto (-24), 3) := by decide +kernel
theorem dX3_stationCalled_29 : decode cX3_stationCalled 29 = .ok (.bipush (-6), 2) := by decide +kernel
theorem dX3_stationCalled_31 : decode cX3_stationCalled 31 = .ok (.ireturn, 1) := by decide +kernel
theorem dX3_keptByAll_0 : decode cX3_keptByAll 0 = .ok (.iconst 0, 1) := by decide +kernel
theorem dX3_keptByAll_1 : decode cX3_keptByAll 1 = .ok (.istore_n 1, 1) := by decide +kernel
theorem dX3_keptByAll_2 : decode cX3_keptByAll 2 = .ok (.iconst 0, 1) := by decide +kernel
theorem dX3_keptByAll_3 : decode cX3_keptByAll 3 = .ok (.istore_n 2, 1) := by decide +kernel
theorem dX3_keptByAll_4 : decode cX3_keptByAll 4 = .ok (.iload_n 2, 1) := by decide +kernel
theorem dX3_keptByAll_5 : decode cX3_keptByAll 5 = .ok (.bipush 6, 2) := by decide +kernel
theorem dX3_keptByAll_7 : decode cX3_keptByAll 7 = .ok (.if_icmp .ge 24, 3) := by decide +kernel
theorem dX3_keptByAll_10 : decode cX3_keptByAll 10 = .ok (.iload_n 1, 1) := by decide +kernel
theorem dX3_keptByAll_11 : decode cX3_keptByAll 11 = .ok (.aload_n 0, 1) := by decide +kernel
theorem dX3_keptByAll_12 : decode cX3_keptByAll 12 = .ok (.getfield 11, 3) := by decide +kernel
theorem dX3_keptByAll_15 : decode cX3_keptByAll 15 = .ok (.iload_n 2, 1) := by decide +kernel
theorem dX3_keptByAll_16 : decode cX3_keptByAll 16 = .ok (.aaload, 1) := by decide +kernel
theorem dX3_keptByAll_17 : decode cX3_keptByAll 17 = .ok (.getfield 69, 3) := by decide +kernel
theorem dX3_keptByAll_20 : decode cX3_keptByAll 20 = .ok (.getfield 73, 3) := by decide +kernel
theorem dX3_keptByAll_23 : decode cX3_keptByAll 23 = .ok (.iadd, 1) := by decide +kernel
theorem dX3_keptByAll_24 : decode cX3_keptByAll 24 = .ok (.istore_n 1, 1) := by decide +kernel
theorem dX3_keptByAll_25 : decode cX3_keptByAll 25 = .ok (.iinc 2 1, 3) := by decide +kernel
theorem dX3_keptByAll_28 : decode cX3_keptByAll 28 = .ok (.goto (-24), 3) := by decide +kernel
theorem dX3_keptByAll_31 : decode cX3_keptByAll 31 = .ok (.iload_n 1, 1) := by decide +kernel
theorem dX3_keptByAll_32 : decode cX3_keptByAll 32 = .ok (.ireturn, 1) := by decide +kernel
theorem dX3_tallyOfAll_0 : decode cX3_tallyOfAll 0 = .ok (.iconst 0, 1) := by decide +kernel
theorem dX3_tallyOfAll_1 : decode cX3_tallyOfAll 1 = .ok (.istore_n 2, 1) := by decide +kernel
theorem dX3_tallyOfAll_2 : decode cX3_tallyOfAll 2 = .ok (.iconst 0, 1) := by decide +kernel
theorem dX3_tallyOfAll_3 : decode cX3_tallyOfAll 3 = .ok (.istore_n 3, 1) := by decide +kernel
theorem dX3_tallyOfAll_4 : decode cX3_tallyOfAll 4 = .ok (.iload_n 3, 1) := by decide +kernel
theorem dX3_tallyOfAll_5 : decode cX3_tallyOfAll 5 = .ok (.bipush 6, 2) := by decide +kernel
theorem dX3_tallyOfAll_7 : decode cX3_tallyOfAll 7 = .ok (.if_icmp .ge 33, 3) := by decide +kernel
theorem dX3_tallyOfAll_10 : decode cX3_tallyOfAll 10 = .ok (.iload_n 1, 1) := by decide +kernel
theorem dX3_tallyOfAll_11 : decode cX3_tallyOfAll 11 = .ok (.ifCond .lt 29, 3) := by decide +kernel
theorem dX3_tallyOfAll_14 : decode cX3_tallyOfAll 14 = .ok (.iload_n 1, 1) := by decide +kernel
theorem dX3_tallyOfAll_15 : decode cX3_tallyOfAll 15 = .ok (.bipush 9, 2) := by decide +kernel
theorem dX3_tallyOfAll_17 : decode cX3_tallyOfAll 17 = .ok (.if_icmp .ge 23, 3) := by decide +kernel
theorem dX3_tallyOfAll_20 : decode cX3_tallyOfAll 20 = .ok (.iload_n 2, 1) := by decide +kernel
theorem dX3_tallyOfAll_21 : decode cX3_tallyOfAll 21 = .ok (.aload_n 0, 1) := by decide +kernel
theorem dX3_tallyOfAll_22 : decode cX3_tallyOfAll 22 = .ok (.getfield 11, 3) := by decide +kernel
theorem dX3_tallyOfAll_25 : decode cX3_tallyOfAll 25 = .ok (.iload_n 3, 1) := by decide +kernel
theorem dX3_tallyOfAll_26 : decode cX3_tallyOfAll 26 = .ok (.aaload, 1) := by decide +kernel
theorem dX3_tallyOfAll_27 : decode cX3_tallyOfAll 27 = .ok (.getfield 55, 3) := by decide +kernel
theorem dX3_tallyOfAll_30 : decode cX3_tallyOfAll 30 = .ok (.iload_n 1, 1) := by decide +kernel
theorem dX3_tallyOfAll_31 : decode cX3_tallyOfAll 31 = .ok (.iaload, 1) := by decide +kernel
theorem dX3_tallyOfAll_32 : decode cX3_tallyOfAll 32 = .ok (.iadd, 1) := by decide +kernel
theorem dX3_tallyOfAll_33 : decode cX3_tallyOfAll 33 = .ok (.istore_n 2, 1) := by decide +kernel
theorem dX3_tallyOfAll_34 : decode cX3_tallyOfAll 34 = .ok (.iinc 3 1, 3) := by decide +kernel
theorem dX3_tallyOfAll_37 : decode cX3_tallyOfAll 37 = .ok (.goto (-33), 3) := by decide +kernel
theorem dX3_tallyOfAll_40 : decode cX3_tallyOfAll 40 = .ok (.iload_n 2, 1) := by decide +kernel
theorem dX3_tallyOfAll_41 : decode cX3_tallyOfAll 41 = .ok (.ireturn, 1) := by decide +kernel
theorem dX3_pairsNear_0 : decode cX3_pairsNear 0 = .ok (.iconst 0, 1) := by decide +kernel
theorem dX3_pairsNear_1 : decode cX3_pairsNear 1 = .ok (.istore_n 1, 1) := by decide +kernel
theorem dX3_pairsNear_2 : decode cX3_pairsNear 2 = .ok (.iconst 0, 1) := by decide +kernel
theorem dX3_pairsNear_3 : decode cX3_pairsNear 3 = .ok (.istore_n 2, 1) := by decide +kernel
theorem dX3_pairsNear_4 : decode cX3_pairsNear 4 = .ok (.iload_n 2, 1) := by decide +kernel
theorem dX3_pairsNear_5 : decode cX3_pairsNear 5 = .ok (.bipush 6, 2) := by decide +kernel
theorem dX3_pairsNear_7 : decode cX3_pairsNear 7 = .ok (.if_icmp .ge 21, 3) := by decide +kernel
theorem dX3_pairsNear_10 : decode cX3_pairsNear 10 = .ok (.iload_n 1, 1) := by decide +kernel
theorem dX3_pairsNear_11 : decode cX3_pairsNear 11 = .ok (.aload_n 0, 1) := by decide +kernel
theorem dX3_pairsNear_12 : decode cX3_pairsNear 12 = .ok (.getfield 17, 3) := by decide +kernel
theorem dX3_pairsNear_15 : decode cX3_pairsNear 15 = .ok (.iload_n 2, 1) := by decide +kernel
theorem dX3_pairsNear_16 : decode cX3_pairsNear 16 = .ok (.iaload, 1) := by decide +kernel
theorem dX3_pairsNear_17 : decode cX3_pairsNear 17 = .ok (.invokestatic 50, 3) := by decide +kernel
theorem dX3_pairsNear_20 : decode cX3_pairsNear 20 = .ok (.iadd, 1) := by decide +kernel
theorem dX3_pairsNear_21 : decode cX3_pairsNear 21 = .ok (.istore_n 1, 1) := by decide +kernel
theorem dX3_pairsNear_22 : decode cX3_pairsNear 22 = .ok (.iinc 2 1, 3) := by decide +kernel
theorem dX3_pairsNear_25 : decode cX3_pairsNear 25 = .ok (.goto (-21), 3) := by decide +kernel
theorem dX3_pairsNear_28 : decode cX3_pairsNear 28 = .ok (.iload_n 1, 1) := by decide +kernel
theorem dX3_pairsNear_29 : decode cX3_pairsNear 29 = .ok (.iconst 2, 1) := by decide +kernel
theorem dX3_pairsNear_30 : decode cX3_pairsNear 30 = .ok (.idiv, 1) := by decide +kernel
theorem dX3_pairsNear_31 : decode cX3_pairsNear 31 = .ok (.ireturn, 1) := by decide +kernel
theorem dX3_hearers_0 : decode cX3_hearers 0 = .ok (.iconst 0, 1) := by decide +kernel
theorem dX3_hearers_1 : decode cX3_hearers 1 = .ok (.istore_n 1, 1) := by decide +kernel
theorem dX3_hearers_2 : decode cX3_hearers 2 = .ok (.iconst 0, 1) := by decide +kernel
theorem dX3_hearers_3 : decode cX3_hearers 3 = .ok (.istore_n 2, 1) := by decide +kernel
theorem dX3_hearers_4 : decode cX3_hearers 4 = .ok (.iload_n 2, 1) := by decide +kernel
theorem dX3_hearers_5 : decode cX3_hearers 5 = .ok (.bipush 6, 2) := by decide +kernel
theorem dX3_hearers_7 : decode cX3_hearers 7 = .ok (.if_icmp .ge 27, 3) := by decide +kernel
theorem dX3_hearers_10 : decode cX3_hearers 10 = .ok (.aload_n 0, 1) := by decide +kernel
theorem dX3_hearers_11 : decode cX3_hearers 11 = .ok (.getfield 11, 3) := by decide +kernel
theorem dX3_hearers_14 : decode cX3_hearers 14 = .ok (.iload_n 2, 1) := by decide +kernel
theorem dX3_hearers_15 : decode cX3_hearers 15 = .ok (.aaload, 1) := by decide +kernel
theorem dX3_hearers_16 : decode cX3_hearers 16 = .ok (.invokevirtual 78, 3) := by decide +kernel
theorem dX3_hearers_19 : decode cX3_hearers 19 = .ok (.ifCond .eq 9, 3) := by decide +kernel
theorem dX3_hearers_22 : decode cX3_hearers 22 = .ok (.iload_n 1, 1) := by decide +kernel
theorem dX3_hearers_23 : decode cX3_hearers 23 = .ok (.iconst 1, 1) := by decide +kernel
theorem dX3_hearers_24 : decode cX3_hearers 24 = .ok (.iload_n 2, 1) := by decide +kernel
theorem dX3_hearers_25 : decode cX3_hearers 25 = .ok (.ishl, 1) := by decide +kernel
theorem dX3_hearers_26 : decode cX3_hearers 26 = .ok (.ior, 1) := by decide +kernel
theorem dX3_hearers_27 : decode cX3_hearers 27 = .ok (.istore_n 1, 1) := by decide +kernel
theorem dX3_hearers_28 : decode cX3_hearers 28 = .ok (.iinc 2 1, 3) := by decide +kernel
theorem dX3_hearers_31 : decode cX3_hearers 31 = .ok (.goto (-27), 3) := by decide +kernel
theorem dX3_hearers_34 : decode cX3_hearers 34 = .ok (.iload_n 1, 1) := by decide +kernel
theorem dX3_hearers_35 : decode cX3_hearers 35 = .ok (.ireturn, 1) := by decide +kernel
theorem dX4_init_0 : decode cX4_init 0 = .ok (.aload_n 0, 1) := by decide +kernel
theorem dX4_init_1 : decode cX4_init 1 = .ok (.invokespecial 3, 3) := by decide +kernel
theorem dX4_init_4 : decode cX4_init 4 = .ok (.aload_n 0, 1) := by decide +kernel
theorem dX4_init_5 : decode cX4_init 5 = .ok (.bipush 8, 2) := by decide +kernel
theorem dX4_init_7 : decode cX4_init 7 = .ok (.newarray .int, 2) := by decide +kernel
theorem dX4_init_9 : decode cX4_init 9 = .ok (.putfield 9, 3) := by decide +kernel
theorem dX4_init_12 : decode cX4_init 12 = .ok (.return_, 1) := by decide +kernel
theorem dX4_copyFrom_0 : decode cX4_copyFrom 0 = .ok (.aload_n 1, 1) := by decide +kernel
theorem dX4_copyFrom_1 : decode cX4_copyFrom 1 = .ok (.getfield 9, 3) := by decide +kernel
theorem dX4_copyFrom_4 : decode cX4_copyFrom 4 = .ok (.iconst 0, 1) := by decide +kernel
theorem dX4_copyFrom_5 : decode cX4_copyFrom 5 = .ok (.aload_n 0, 1) := by decide +kernel
theorem dX4_copyFrom_6 : decode cX4_copyFrom 6 = .ok (.getfield 9, 3) := by decide +kernel
theorem dX4_copyFrom_9 : decode cX4_copyFrom 9 = .ok (.iconst 0, 1) := by decide +kernel
theorem dX4_copyFrom_10 : decode cX4_copyFrom 10 = .ok (.bipush 8, 2) := by decide +kernel
theorem dX4_copyFrom_12 : decode cX4_copyFrom 12 = .ok (.invokestatic 15, 3) := by decide +kernel
theorem dX4_copyFrom_15 : decode cX4_copyFrom 15 = .ok (.aload_n 0, 1) := by decide +kernel
theorem dX4_copyFrom_16 : decode cX4_copyFrom 16 = .ok (.aload_n 1, 1) := by decide +kernel
theorem dX4_copyFrom_17 : decode cX4_copyFrom 17 = .ok (.getfield 21, 3) := by decide +kernel
theorem dX4_copyFrom_20 : decode cX4_copyFrom 20 = .ok (.putfield 21, 3) := by decide +kernel
theorem dX4_copyFrom_23 : decode cX4_copyFrom 23 = .ok (.aload_n 0, 1) := by decide +kernel
theorem dX4_copyFrom_24 : decode cX4_copyFrom 24 = .ok (.aload_n 1, 1) := by decide +kernel
theorem dX4_copyFrom_25 : decode cX4_copyFrom 25 = .ok (.getfield 25, 3) := by decide +kernel
theorem dX4_copyFrom_28 : decode cX4_copyFrom 28 = .ok (.putfield 25, 3) := by decide +kernel
theorem dX4_copyFrom_31 : decode cX4_copyFrom 31 = .ok (.aload_n 0, 1) := by decide +kernel
theorem dX4_copyFrom_32 : decode cX4_copyFrom 32 = .ok (.aload_n 1, 1) := by decide +kernel
theorem dX4_copyFrom_33 : decode cX4_copyFrom 33 = .ok (.getfield 28, 3) := by decide +kernel
theorem dX4_copyFrom_36 : decode cX4_copyFrom 36 = .ok (.putfield 28, 3) := by decide +kernel
theorem dX4_copyFrom_39 : decode cX4_copyFrom 39 = .ok (.return_, 1) := by decide +kernel
theorem dX4_clear_0 : decode cX4_clear 0 = .ok (.aload_n 0, 1) := by decide +kernel
theorem dX4_clear_1 : decode cX4_clear 1 = .ok (.iconst 0, 1) := by decide +kernel
theorem dX4_clear_2 : decode cX4_clear 2 = .ok (.putfield 21, 3) := by decide +kernel
theorem dX4_clear_5 : decode cX4_clear 5 = .ok (.aload_n 0, 1) := by decide +kernel
theorem dX4_clear_6 : decode cX4_clear 6 = .ok (.iconst 0, 1) := by decide +kernel
theorem dX4_clear_7 : decode cX4_clear 7 = .ok (.putfield 25, 3) := by decide +kernel
theorem dX4_clear_10 : decode cX4_clear 10 = .ok (.aload_n 0, 1) := by decide +kernel
theorem dX4_clear_11 : decode cX4_clear 11 = .ok (.iconst 0, 1) := by decide +kernel
theorem dX4_clear_12 : decode cX4_clear 12 = .ok (.putfield 28, 3) := by decide +kernel
theorem dX4_clear_15 : decode cX4_clear 15 = .ok (.return_, 1) := by decide +kernel
theorem dX4_addWord_0 : decode cX4_addWord 0 = .ok (.aload_n 0, 1) := by decide +kernel
theorem dX4_addWord_1 : decode cX4_addWord 1 = .ok (.getfield 21, 3) := by decide +kernel
theorem dX4_addWord_4 : decode cX4_addWord 4 = .ok (.bipush 8, 2) := by decide +kernel
theorem dX4_addWord_6 : decode cX4_addWord 6 = .ok (.if_icmp .ge 39, 3) := by decide +kernel
theorem dX4_addWord_9 : decode cX4_addWord 9 = .ok (.aload_n 0, 1) := by decide +kernel
theorem dX4_addWord_10 : decode cX4_addWord 10 = .ok (.getfield 9, 3) := by decide +kernel
theorem dX4_addWord_13 : decode cX4_addWord 13 = .ok (.aload_n 0, 1) := by decide +kernel
theorem dX4_addWord_14 : decode cX4_addWord 14 = .ok (.getfield 21, 3) := by decide +kernel
theorem dX4_addWord_17 : decode cX4_addWord 17 = .ok (.iload_n 1, 1) := by decide +kernel
theorem dX4_addWord_18 : decode cX4_addWord 18 = .ok (.iconst 4, 1) := by decide +kernel
theorem dX4_addWord_19 : decode cX4_addWord 19 = .ok (.ishl, 1) := by decide +kernel
theorem dX4_addWord_20 : decode cX4_addWord 20 = .ok (.iload_n 2, 1) := by decide +kernel
theorem dX4_addWord_21 : decode cX4_addWord 21 = .ok (.iconst 1, 1) := by decide +kernel
theorem dX4_addWord_22 : decode cX4_addWord 22 = .ok (.ishl, 1) := by decide +kernel
theorem dX4_addWord_23 : decode cX4_addWord 23 = .ok (.ior, 1) := by decide +kernel
theorem dX4_addWord_24 : decode cX4_addWord 24 = .ok (.iload_n 3, 1) := by decide +kernel
theorem dX4_addWord_25 : decode cX4_addWord 25 = .ok (.ifCond .eq 7, 3) := by decide +kernel
theorem dX4_addWord_28 : decode cX4_addWord 28 = .ok (.iconst 1, 1) := by decide +kernel
theorem dX4_addWord_29 : decode cX4_addWord 29 = .ok (.goto 4, 3) := by decide +kernel
theorem dX4_addWord_32 : decode cX4_addWord 32 = .ok (.iconst 0, 1) := by decide +kernel
theorem dX4_addWord_33 : decode cX4_addWord 33 = .ok (.ior, 1) := by decide +kernel
theorem dX4_addWord_34 : decode cX4_addWord 34 = .ok (.iastore, 1) := by decide +kernel
theorem dX4_addWord_35 : decode cX4_addWord 35 = .ok (.aload_n 0, 1) := by decide +kernel
theorem dX4_addWord_36 : decode cX4_addWord 36 = .ok (.dup, 1) := by decide +kernel
theorem dX4_addWord_37 : decode cX4_addWord 37 = .ok (.getfield 21, 3) := by decide +kernel
theorem dX4_addWord_40 : decode cX4_addWord 40 = .ok (.iconst 1, 1) := by decide +kernel
theorem dX4_addWord_41 : decode cX4_addWord 41 = .ok (.iadd, 1) := by decide +kernel
theorem dX4_addWord_42 : decode cX4_addWord 42 = .ok (.putfield 21, 3) := by decide +kernel
theorem dX4_addWord_45 : decode cX4_addWord 45 = .ok (.return_, 1) := by decide +kernel
theorem dX4_isPlace_0 : decode cX4_isPlace 0 = .ok (.iload_n 1, 1) := by decide +kernel
theorem dX4_isPlace_1 : decode cX4_isPlace 1 = .ok (.ifCond .lt 15, 3) := by decide +kernel
theorem dX4_isPlace_4 : decode cX4_isPlace 4 = .ok (.iload_n 1, 1) := by decide +kernel
theorem dX4_isPlace_5 : decode cX4_isPlace 5 = .ok (.aload_n 0, 1) := by decide +kernel
theorem dX4_isPlace_6 : decode cX4_isPlace 6 = .ok (.getfield 21, 3) := by decide +kernel
theorem dX4_isPlace_9 : decode cX4_isPlace 9 = .ok (.if_icmp .ge 7, 3) := by decide +kernel
theorem dX4_isPlace_12 : decode cX4_isPlace 12 = .ok (.iconst 1, 1) := by decide +kernel
theorem dX4_isPlace_13 : decode cX4_isPlace 13 = .ok (.goto 4, 3) := by decide +kernel
theorem dX4_isPlace_16 : decode cX4_isPlace 16 = .ok (.iconst 0, 1) := by decide +kernel
theorem dX4_isPlace_17 : decode cX4_isPlace 17 = .ok (.ireturn, 1) := by decide +kernel
theorem dX4_nameAt_0 : decode cX4_nameAt 0 = .ok (.aload_n 0, 1) := by decide +kernel
theorem dX4_nameAt_1 : decode cX4_nameAt 1 = .ok (.iload_n 1, 1) := by decide +kernel
theorem dX4_nameAt_2 : decode cX4_nameAt 2 = .ok (.invokevirtual 31, 3) := by decide +kernel
theorem dX4_nameAt_5 : decode cX4_nameAt 5 = .ok (.ifCond .eq 14, 3) := by decide +kernel
theorem dX4_nameAt_8 : decode cX4_nameAt 8 = .ok (.aload_n 0, 1) := by decide +kernel
theorem dX4_nameAt_9 : decode cX4_nameAt 9 = .ok (.getfield 9, 3) := by decide +kernel
theorem dX4_nameAt_12 : decode cX4_nameAt 12 = .ok (.iload_n 1, 1) := by decide +kernel
theorem dX4_nameAt_13 : decode cX4_nameAt 13 = .ok (.iaload, 1) := by decide +kernel
theorem dX4_nameAt_14 : decode cX4_nameAt 14 = .ok (.iconst 4, 1) := by decide +kernel
theorem dX4_nameAt_15 : decode cX4_nameAt 15 = .ok (.ishr, 1) := by decide +kernel
theorem dX4_nameAt_16 : decode cX4_nameAt 16 = .ok (.goto 4, 3) := by decide +kernel
theorem dX4_nameAt_19 : decode cX4_nameAt 19 = .ok (.iconst 0, 1) := by decide +kernel
theorem dX4_nameAt_20 : decode cX4_nameAt 20 = .ok (.ireturn, 1) := by decide +kernel
theorem dX4_hopsAt_0 : decode cX4_hopsAt 0 = .ok (.aload_n 0, 1) := by decide +kernel
theorem dX4_hopsAt_1 : decode cX4_hopsAt 1 = .ok (.iload_n 1, 1) := by decide +kernel
theorem dX4_hopsAt_2 : decode cX4_hopsAt 2 = .ok (.invokevirtual 31, 3) := by decide +kernel
theorem dX4_hopsAt_5 : decode cX4_hopsAt 5 = .ok (.ifCond .eq 17, 3) := by decide +kernel
theorem dX4_hopsAt_8 : decode cX4_hopsAt 8 = .ok (.aload_n 0, 1) := by decide +kernel
theorem dX4_hopsAt_9 : decode cX4_hopsAt 9 = .ok (.getfield 9, 3) := by decide +kernel
theorem dX4_hopsAt_12 : decode cX4_hopsAt 12 = .ok (.iload_n 1, 1) := by decide +kernel
theorem dX4_hopsAt_13 : decode cX4_hopsAt 13 = .ok (.iaload, 1) := by decide +kernel
theorem dX4_hopsAt_14 : decode cX4_hopsAt 14 = .ok (.iconst 1, 1) := by decide +kernel
theorem dX4_hopsAt_15 : decode cX4_hopsAt 15 = .ok (.ishr, 1) := by decide +kernel
theorem dX4_hopsAt_16 : decode cX4_hopsAt 16 = .ok (.bipush 7, 2) := by decide +kernel
theorem dX4_hopsAt_18 : decode cX4_hopsAt 18 = .ok (.iand, 1) := by decide +kernel
theorem dX4_hopsAt_19 : decode cX4_hopsAt 19 = .ok (.goto 4, 3) := by decide +kernel
theorem dX4_hopsAt_22 : decode cX4_hopsAt 22 = .ok (.iconst 0, 1) := by decide +kernel
theorem dX4_hopsAt_23 : decode cX4_hopsAt 23 = .ok (.ireturn, 1) := by decide +kernel
theorem dX4_isSpentAt_0 : decode cX4_isSpentAt 0 = .ok (.aload_n 0, 1) := by decide +kernel
theorem dX4_isSpentAt_1 : decode cX4_isSpentAt 1 = .ok (.iload_n 1, 1) := by decide +kernel
theorem dX4_isSpentAt_2 : decode cX4_isSpentAt 2 = .ok (.invokevirtual 31, 3) := by decide +kernel
theorem dX4_isSpentAt_5 : decode cX4_isSpentAt 5 = .ok (.ifCond .eq 18, 3) := by decide +kernel
theorem dX4_isSpentAt_8 : decode cX4_isSpentAt 8 = .ok (.aload_n 0, 1) := by decide +kernel
theorem dX4_isSpentAt_9 : decode cX4_isSpentAt 9 = .ok (.getfield 9, 3) := by decide +kernel
theorem dX4_isSpentAt_12 : decode cX4_isSpentAt 12 = .ok (.iload_n 1, 1) := by decide +kernel
theorem dX4_isSpentAt_13 : decode cX4_isSpentAt 13 = .ok (.iaload, 1) := by decide +kernel
theorem dX4_isSpentAt_14 : decode cX4_isSpentAt 14 = .ok (.iconst 1, 1) := by decide +kernel
theorem dX4_isSpentAt_15 : decode cX4_isSpentAt 15 = .ok (.iand, 1) := by decide +kernel
theorem dX4_isSpentAt_16 : decode cX4_isSpentAt 16 = .ok (.ifCond .eq 7, 3) := by decide +kernel
theorem dX4_isSpentAt_19 : decode cX4_isSpentAt 19 = .ok (.iconst 1, 1) := by decide +kernel
theorem dX4_isSpentAt_20 : decode cX4_isSpentAt 20 = .ok (.goto 4, 3) := by decide +kernel
theorem dX4_isSpentAt_23 : decode cX4_isSpentAt 23 = .ok (.iconst 0, 1) := by decide +kernel
theorem dX4_isSpentAt_24 : decode cX4_isSpentAt 24 = .ok (.ireturn, 1) := by decide +kernel
theorem dX4_firstUnspent_0 : decode cX4_firstUnspent 0 = .ok (.iconst 0, 1) := by decide +kernel
theorem dX4_firstUnspent_1 : decode cX4_firstUnspent 1 = .ok (.istore_n 1, 1) := by decide +kernel
theorem dX4_firstUnspent_2 : decode cX4_firstUnspent 2 = .ok (.iload_n 1, 1) := by decide +kernel
theorem dX4_firstUnspent_3 : decode cX4_firstUnspent 3 = .ok (.aload_n 0, 1) := by decide +kernel
theorem dX4_firstUnspent_4 : decode cX4_firstUnspent 4 = .ok (.getfield 21, 3) := by decide +kernel
theorem dX4_firstUnspent_7 : decode cX4_firstUnspent 7 = .ok (.if_icmp .ge 22, 3) := by decide +kernel
theorem dX4_firstUnspent_10 : decode cX4_firstUnspent 10 = .ok (.aload_n 0, 1) := by decide +kernel
theorem dX4_firstUnspent_11 : decode cX4_firstUnspent 11 = .ok (.getfield 9, 3) := by decide +kernel
theorem dX4_firstUnspent_14 : decode cX4_firstUnspent 14 = .ok (.iload_n 1, 1) := by decide +kernel
theorem dX4_firstUnspent_15 : decode cX4_firstUnspent 15 = .ok (.iaload, 1) := by decide +kernel
theorem dX4_firstUnspent_16 : decode cX4_firstUnspent 16 = .ok (.iconst 1, 1) := by decide +kernel
theorem dX4_firstUnspent_17 : decode cX4_firstUnspent 17 = .ok (.iand, 1) := by decide +kernel
theorem dX4_firstUnspent_18 : decode cX4_firstUnspent 18 = .ok (.ifCond .ne 5, 3) := by decide +kernel
theorem dX4_firstUnspent_21 : decode cX4_firstUnspent 21 = .ok (.iload_n 1, 1) := by decide +kernel
theorem dX4_firstUnspent_22 : decode cX4_firstUnspent 22 = .ok (.ireturn, 1) := by decide +kernel
theorem dX4_firstUnspent_23 : decode cX4_firstUnspent 23 = .ok (.iinc 1 1, 3) := by decide +kernel
theorem dX4_firstUnspent_26 : decode cX4_firstUnspent 26 = .ok (.goto (-24), 3) := by decide +kernel
theorem dX4_firstUnspent_29 : decode cX4_firstUnspent 29 = .ok (.bipush (-6), 2) := by decide +kernel
theorem dX4_firstUnspent_31 : decode cX4_firstUnspent 31 = .ok (.ireturn, 1) := by decide +kernel
theorem dX4_spentWords_0 : decode cX4_spentWords 0 = .ok (.iconst 0, 1) := by decide +kernel
theorem dX4_spentWords_1 : decode cX4_spentWords 1 = .ok (.istore_n 1, 1) := by decide +kernel
theorem dX4_spentWords_2 : decode cX4_spentWords 2 = .ok (.iconst 0, 1) := by decide +kernel
theorem dX4_spentWords_3 : decode cX4_spentWords 3 = .ok (.istore_n 2, 1) := by decide +kernel
theorem dX4_spentWords_4 : decode cX4_spentWords 4 = .ok (.iload_n 2, 1) := by decide +kernel
theorem dX4_spentWords_5 : decode cX4_spentWords 5 = .ok (.aload_n 0, 1) := by decide +kernel
theorem dX4_spentWords_6 : decode cX4_spentWords 6 = .ok (.getfield 21, 3) := by decide +kernel
theorem dX4_spentWords_9 : decode cX4_spentWords 9 = .ok (.if_icmp .ge 20, 3) := by decide +kernel
theorem dX4_spentWords_12 : decode cX4_spentWords 12 = .ok (.iload_n 1, 1) := by decide +kernel
theorem dX4_spentWords_13 : decode cX4_spentWords 13 = .ok (.aload_n 0, 1) := by decide +kernel
theorem dX4_spentWords_14 : decode cX4_spentWords 14 = .ok (.getfield 9, 3) := by decide +kernel
theorem dX4_spentWords_17 : decode cX4_spentWords 17 = .ok (.iload_n 2, 1) := by decide +kernel
theorem dX4_spentWords_18 : decode cX4_spentWords 18 = .ok (.iaload, 1) := by decide +kernel
theorem dX4_spentWords_19 : decode cX4_spentWords 19 = .ok (.iconst 1, 1) := by decide +kernel
theorem dX4_spentWords_20 : decode cX4_spentWords 20 = .ok (.iand, 1) := by decide +kernel
theorem dX4_spentWords_21 : decode cX4_spentWords 21 = .ok (.iadd, 1) := by decide +kernel
theorem dX4_spentWords_22 : decode cX4_spentWords 22 = .ok (.istore_n 1, 1) := by decide +kernel
theorem dX4_spentWords_23 : decode cX4_spentWords 23 = .ok (.iinc 2 1, 3) := by decide +kernel
theorem dX4_spentWords_26 : decode cX4_spentWords 26 = .ok (.goto (-22), 3) := by decide +kernel
theorem dX4_spentWords_29 : decode cX4_spentWords 29 = .ok (.iload_n 1, 1) := by decide +kernel
theorem dX4_spentWords_30 : decode cX4_spentWords 30 = .ok (.ireturn, 1) := by decide +kernel
theorem dX4_placeOfSpent_0 : decode cX4_placeOfSpent 0 = .ok (.iconst 0, 1) := by decide +kernel
theorem dX4_placeOfSpent_1 : decode cX4_placeOfSpent 1 = .ok (.istore_n 2, 1) := by decide +kernel
theorem dX4_placeOfSpent_2 : decode cX4_placeOfSpent 2 = .ok (.iconst 0, 1) := by decide +kernel
theorem dX4_placeOfSpent_3 : decode cX4_placeOfSpent 3 = .ok (.istore_n 3, 1) := by decide +kernel
theorem dX4_placeOfSpent_4 : decode cX4_placeOfSpent 4 = .ok (.iload_n 3, 1) := by decide +kernel
theorem dX4_placeOfSpent_5 : decode cX4_placeOfSpent 5 = .ok (.aload_n 0, 1) := by decide +kernel
theorem dX4_placeOfSpent_6 : decode cX4_placeOfSpent 6 = .ok (.getfield 21, 3) := by decide +kernel
theorem dX4_placeOfSpent_9 : decode cX4_placeOfSpent 9 = .ok (.if_icmp .ge 30, 3) := by decide +kernel
theorem dX4_placeOfSpent_12 : decode cX4_placeOfSpent 12 = .ok (.aload_n 0, 1) := by decide +kernel
theorem dX4_placeOfSpent_13 : decode cX4_placeOfSpent 13 = .ok (.getfield 9, 3) := by decide +kernel
theorem dX4_placeOfSpent_16 : decode cX4_placeOfSpent 16 = .ok (.iload_n 3, 1) := by decide +kernel
theorem dX4_placeOfSpent_17 : decode cX4_placeOfSpent 17 = .ok (.iaload, 1) := by decide +kernel
theorem dX4_placeOfSpent_18 : decode cX4_placeOfSpent 18 = .ok (.iconst 1, 1) := by decide +kernel
theorem dX4_placeOfSpent_19 : decode cX4_placeOfSpent 19 = .ok (.iand, 1) := by decide +kernel
theorem dX4_placeOfSpent_20 : decode cX4_placeOfSpent 20 = .ok (.ifCond .eq 13, 3) := by decide +kernel
theorem dX4_placeOfSpent_23 : decode cX4_placeOfSpent 23 = .ok (.iload_n 2, 1) := by decide +kernel
theorem dX4_placeOfSpent_24 : decode cX4_placeOfSpent 24 = .ok (.iload_n 1, 1) := by decide +kernel
theorem dX4_placeOfSpent_25 : decode cX4_placeOfSpent 25 = .ok (.if_icmp .ne 5, 3) := by decide +kernel
theorem dX4_placeOfSpent_28 : decode cX4_placeOfSpent 28 = .ok (.iload_n 3, 1) := by decide +kernel
theorem dX4_placeOfSpent_29 : decode cX4_placeOfSpent 29 = .ok (.ireturn, 1) := by decide +kernel
theorem dX4_placeOfSpent_30 : decode cX4_placeOfSpent 30 = .ok (.iinc 2 1, 3) := by decide +kernel
theorem dX4_placeOfSpent_33 : decode cX4_placeOfSpent 33 = .ok (.iinc 3 1, 3) := by decide +kernel
theorem dX4_placeOfSpent_36 : decode cX4_placeOfSpent 36 = .ok (.goto (-32), 3) := by decide +kernel
theorem dX4_placeOfSpent_39 : decode cX4_placeOfSpent 39 = .ok (.bipush (-6), 2) := by decide +kernel
theorem dX4_placeOfSpent_41 : decode cX4_placeOfSpent 41 = .ok (.ireturn, 1) := by decide +kernel
theorem dX4_wasSentBy_0 : decode cX4_wasSentBy 0 = .ok (.aload_n 0, 1) := by decide +kernel
theorem dX4_wasSentBy_1 : decode cX4_wasSentBy 1 = .ok (.getfield 25, 3) := by decide +kernel
theorem dX4_wasSentBy_4 : decode cX4_wasSentBy 4 = .ok (.iload_n 1, 1) := by decide +kernel
theorem dX4_wasSentBy_5 : decode cX4_wasSentBy 5 = .ok (.if_icmp .ne 5, 3) := by decide +kernel
theorem dX4_wasSentBy_8 : decode cX4_wasSentBy 8 = .ok (.iconst 1, 1) := by decide +kernel
theorem dX4_wasSentBy_9 : decode cX4_wasSentBy 9 = .ok (.ireturn, 1) := by decide +kernel
theorem dX4_wasSentBy_10 : decode cX4_wasSentBy 10 = .ok (.iload_n 1, 1) := by decide +kernel
theorem dX4_wasSentBy_11 : decode cX4_wasSentBy 11 = .ok (.iconst 4, 1) := by decide +kernel
theorem dX4_wasSentBy_12 : decode cX4_wasSentBy 12 = .ok (.ishl, 1) := by decide +kernel
theorem dX4_wasSentBy_13 : decode cX4_wasSentBy 13 = .ok (.istore_n 2, 1) := by decide +kernel
theorem dX4_wasSentBy_14 : decode cX4_wasSentBy 14 = .ok (.iconst 0, 1) := by decide +kernel
theorem dX4_wasSentBy_15 : decode cX4_wasSentBy 15 = .ok (.istore_n 3, 1) := by decide +kernel
theorem dX4_wasSentBy_16 : decode cX4_wasSentBy 16 = .ok (.iload_n 3, 1) := by decide +kernel
theorem dX4_wasSentBy_17 : decode cX4_wasSentBy 17 = .ok (.aload_n 0, 1) := by decide +kernel
theorem dX4_wasSentBy_18 : decode cX4_wasSentBy 18 = .ok (.getfield 21, 3) := by decide +kernel
theorem dX4_wasSentBy_21 : decode cX4_wasSentBy 21 = .ok (.if_icmp .ge 35, 3) := by decide +kernel
theorem dX4_wasSentBy_24 : decode cX4_wasSentBy 24 = .ok (.aload_n 0, 1) := by decide +kernel
theorem dX4_wasSentBy_25 : decode cX4_wasSentBy 25 = .ok (.getfield 9, 3) := by decide +kernel
theorem dX4_wasSentBy_28 : decode cX4_wasSentBy 28 = .ok (.iload_n 3, 1) := by decide +kernel
theorem dX4_wasSentBy_29 : decode cX4_wasSentBy 29 = .ok (.iaload, 1) := by decide +kernel
theorem dX4_wasSentBy_30 : decode cX4_wasSentBy 30 = .ok (.iconst 1, 1) := by decide +kernel
theorem dX4_wasSentBy_31 : decode cX4_wasSentBy 31 = .ok (.iand, 1) := by decide +kernel
theorem dX4_wasSentBy_32 : decode cX4_wasSentBy 32 = .ok (.ifCond .eq 18, 3) := by decide +kernel
theorem dX4_wasSentBy_35 : decode cX4_wasSentBy 35 = .ok (.aload_n 0, 1) := by decide +kernel
theorem dX4_wasSentBy_36 : decode cX4_wasSentBy 36 = .ok (.getfield 9, 3) := by decide +kernel
theorem dX4_wasSentBy_39 : decode cX4_wasSentBy 39 = .ok (.iload_n 3, 1) := by decide +kernel
theorem dX4_wasSentBy_40 : decode cX4_wasSentBy 40 = .ok (.iaload, 1) := by decide +kernel
theorem dX4_wasSentBy_41 : decode cX4_wasSentBy 41 = .ok (.bipush (-16), 2) := by decide +kernel
theorem dX4_wasSentBy_43 : decode cX4_wasSentBy 43 = .ok (.iand, 1) := by decide +kernel
theorem dX4_wasSentBy_44 : decode cX4_wasSentBy 44 = .ok (.iload_n 2, 1) := by decide +kernel
theorem dX4_wasSentBy_45 : decode cX4_wasSentBy 45 = .ok (.if_icmp .ne 5, 3) := by decide +kernel
theorem dX4_wasSentBy_48 : decode cX4_wasSentBy 48 = .ok (.iconst 1, 1) := by decide +kernel
theorem dX4_wasSentBy_49 : decode cX4_wasSentBy 49 = .ok (.ireturn, 1) := by decide +kernel
theorem dX4_wasSentBy_50 : decode cX4_wasSentBy 50 = .ok (.iinc 3 1, 3) := by decide +kernel
theorem dX4_wasSentBy_53 : decode cX4_wasSentBy 53 = .ok (.goto (-37), 3) := by decide +kernel
theorem dX4_wasSentBy_56 : decode cX4_wasSentBy 56 = .ok (.iconst 0, 1) := by decide +kernel
theorem dX4_wasSentBy_57 : decode cX4_wasSentBy 57 = .ok (.ireturn, 1) := by decide +kernel
theorem dX4_spend_0 : decode cX4_spend 0 = .ok (.aload_n 0, 1) := by decide +kernel
theorem dX4_spend_1 : decode cX4_spend 1 = .ok (.iload_n 1, 1) := by decide +kernel
theorem dX4_spend_2 : decode cX4_spend 2 = .ok (.invokevirtual 31, 3) := by decide +kernel
theorem dX4_spend_5 : decode cX4_spend 5 = .ok (.ifCond .eq 14, 3) := by decide +kernel
theorem dX4_spend_8 : decode cX4_spend 8 = .ok (.aload_n 0, 1) := by decide +kernel
theorem dX4_spend_9 : decode cX4_spend 9 = .ok (.getfield 9, 3) := by decide +kernel
theorem dX4_spend_12 : decode cX4_spend 12 = .ok (.iload_n 1, 1) := by decide +kernel
theorem dX4_spend_13 : decode cX4_spend 13 = .ok (.iload_n 2, 1) := by decide +kernel
theorem dX4_spend_14 : decode cX4_spend 14 = .ok (.iconst 4, 1) := by decide +kernel
theorem dX4_spend_15 : decode cX4_spend 15 = .ok (.ishl, 1) := by decide +kernel
theorem dX4_spend_16 : decode cX4_spend 16 = .ok (.iconst 1, 1) := by decide +kernel
theorem dX4_spend_17 : decode cX4_spend 17 = .ok (.ior, 1) := by decide +kernel
theorem dX4_spend_18 : decode cX4_spend 18 = .ok (.iastore, 1) := by decide +kernel
theorem dX4_spend_19 : decode cX4_spend 19 = .ok (.return_, 1) := by decide +kernel
theorem dX4_setHops_0 : decode cX4_setHops 0 = .ok (.aload_n 0, 1) := by decide +kernel
theorem dX4_setHops_1 : decode cX4_setHops 1 = .ok (.iload_n 1, 1) := by decide +kernel
theorem dX4_setHops_2 : decode cX4_setHops 2 = .ok (.invokevirtual 31, 3) := by decide +kernel
theorem dX4_setHops_5 : decode cX4_setHops 5 = .ok (.ifCond .eq 22, 3) := by decide +kernel
theorem dX4_setHops_8 : decode cX4_setHops 8 = .ok (.aload_n 0, 1) := by decide +kernel
theorem dX4_setHops_9 : decode cX4_setHops 9 = .ok (.getfield 9, 3) := by decide +kernel
theorem dX4_setHops_12 : decode cX4_setHops 12 = .ok (.iload_n 1, 1) := by decide +kernel
theorem dX4_setHops_13 : decode cX4_setHops 13 = .ok (.aload_n 0, 1) := by decide +kernel
theorem dX4_setHops_14 : decode cX4_setHops 14 = .ok (.getfield 9, 3) := by decide +kernel
theorem dX4_setHops_17 : decode cX4_setHops 17 = .ok (.iload_n 1, 1) := by decide +kernel
theorem dX4_setHops_18 : decode cX4_setHops 18 = .ok (.iaload, 1) := by decide +kernel
theorem dX4_setHops_19 : decode cX4_setHops 19 = .ok (.bipush (-15), 2) := by decide +kernel
theorem dX4_setHops_21 : decode cX4_setHops 21 = .ok (.iand, 1) := by decide +kernel
theorem dX4_setHops_22 : decode cX4_setHops 22 = .ok (.iload_n 2, 1) := by decide +kernel
theorem dX4_setHops_23 : decode cX4_setHops 23 = .ok (.iconst 1, 1) := by decide +kernel
theorem dX4_setHops_24 : decode cX4_setHops 24 = .ok (.ishl, 1) := by decide +kernel
theorem dX4_setHops_25 : decode cX4_setHops 25 = .ok (.ior, 1) := by decide +kernel
theorem dX4_setHops_26 : decode cX4_setHops 26 = .ok (.iastore, 1) := by decide +kernel
theorem dX4_setHops_27 : decode cX4_setHops 27 = .ok (.return_, 1) := by decide +kernel
theorem dX4_putAhead_0 : decode cX4_putAhead 0 = .ok (.aload_n 0, 1) := by decide +kernel
theorem dX4_putAhead_1 : decode cX4_putAhead 1 = .ok (.iload_n 1, 1) := by decide +kernel
theorem dX4_putAhead_2 : decode cX4_putAhead 2 = .ok (.invokevirtual 31, 3) := by decide +kernel
theorem dX4_putAhead_5 : decode cX4_putAhead 5 = .ok (.ifCond .eq 12, 3) := by decide +kernel
theorem dX4_putAhead_8 : decode cX4_putAhead 8 = .ok (.aload_n 0, 1) := by decide +kernel
theorem dX4_putAhead_9 : decode cX4_putAhead 9 = .ok (.getfield 21, 3) := by decide +kernel
theorem dX4_putAhead_12 : decode cX4_putAhead 12 = .ok (.bipush 8, 2) := by decide +kernel
theorem dX4_putAhead_14 : decode cX4_putAhead 14 = .ok (.if_icmp .lt 4, 3) := by decide +kernel
theorem dX4_putAhead_17 : decode cX4_putAhead 17 = .ok (.return_, 1) := by decide +kernel
theorem dX4_putAhead_18 : decode cX4_putAhead 18 = .ok (.aload_n 0, 1) := by decide +kernel
theorem dX4_putAhead_19 : decode cX4_putAhead 19 = .ok (.getfield 21, 3) := by decide +kernel
theorem dX4_putAhead_22 : decode cX4_putAhead 22 = .ok (.istore_n 3, 1) := by decide +kernel
theorem dX4_putAhead_23 : decode cX4_putAhead 23 = .ok (.iload_n 3, 1) := by decide +kernel
theorem dX4_putAhead_24 : decode cX4_putAhead 24 = .ok (.iload_n 1, 1) := by decide +kernel
theorem dX4_putAhead_25 : decode cX4_putAhead 25 = .ok (.if_icmp .le 23, 3) := by decide +kernel
theorem dX4_putAhead_28 : decode cX4_putAhead 28 = .ok (.aload_n 0, 1) := by decide +kernel
theorem dX4_putAhead_29 : decode cX4_putAhead 29 = .ok (.getfield 9, 3) := by decide +kernel
theorem dX4_putAhead_32 : decode cX4_putAhead 32 = .ok (.iload_n 3, 1) := by decide +kernel
theorem dX4_putAhead_33 : decode cX4_putAhead 33 = .ok (.aload_n 0, 1) := by decide +kernel
theorem dX4_putAhead_34 : decode cX4_putAhead 34 = .ok (.getfield 9, 3) := by decide +kernel
theorem dX4_putAhead_37 : decode cX4_putAhead 37 = .ok (.iload_n 3, 1) := by decide +kernel
theorem dX4_putAhead_38 : decode cX4_putAhead 38 = .ok (.iconst 1, 1) := by decide +kernel
theorem dX4_putAhead_39 : decode cX4_putAhead 39 = .ok (.isub, 1) := by decide +kernel
theorem dX4_putAhead_40 : decode cX4_putAhead 40 = .ok (.iaload, 1) := by decide +kernel
theorem dX4_putAhead_41 : decode cX4_putAhead 41 = .ok (.iastore, 1) := by decide +kernel
theorem dX4_putAhead_42 : decode cX4_putAhead 42 = .ok (.iinc 3 (-1), 3) := by decide +kernel
theorem dX4_putAhead_45 : decode cX4_putAhead 45 = .ok (.goto (-22), 3) := by decide +kernel
theorem dX4_putAhead_48 : decode cX4_putAhead 48 = .ok (.aload_n 0, 1) := by decide +kernel
theorem dX4_putAhead_49 : decode cX4_putAhead 49 = .ok (.getfield 9, 3) := by decide +kernel
theorem dX4_putAhead_52 : decode cX4_putAhead 52 = .ok (.iload_n 1, 1) := by decide +kernel
theorem dX4_putAhead_53 : decode cX4_putAhead 53 = .ok (.iload_n 2, 1) := by decide +kernel
theorem dX4_putAhead_54 : decode cX4_putAhead 54 = .ok (.iconst 4, 1) := by decide +kernel
theorem dX4_putAhead_55 : decode cX4_putAhead 55 = .ok (.ishl, 1) := by decide +kernel
theorem dX4_putAhead_56 : decode cX4_putAhead 56 = .ok (.iconst 1, 1) := by decide +kernel
theorem dX4_putAhead_57 : decode cX4_putAhead 57 = .ok (.ior, 1) := by decide +kernel
theorem dX4_putAhead_58 : decode cX4_putAhead 58 = .ok (.iastore, 1) := by decide +kernel
theorem dX4_putAhead_59 : decode cX4_putAhead 59 = .ok (.aload_n 0, 1) := by decide +kernel
theorem dX4_putAhead_60 : decode cX4_putAhead 60 = .ok (.dup, 1) := by decide +kernel
theorem dX4_putAhead_61 : decode cX4_putAhead 61 = .ok (.getfield 21, 3) := by decide +kernel
theorem dX4_putAhead_64 : decode cX4_putAhead 64 = .ok (.iconst 1, 1) := by decide +kernel
theorem dX4_putAhead_65 : decode cX4_putAhead 65 = .ok (.iadd, 1) := by decide +kernel
theorem dX4_putAhead_66 : decode cX4_putAhead 66 = .ok (.putfield 21, 3) := by decide +kernel
theorem dX4_putAhead_69 : decode cX4_putAhead 69 = .ok (.return_, 1) := by decide +kernel
theorem dX5_init_0 : decode cX5_init 0 = .ok (.aload_n 0, 1) := by decide +kernel
theorem dX5_init_1 : decode cX5_init 1 = .ok (.invokespecial 3, 3) := by decide +kernel
theorem dX5_init_4 : decode cX5_init 4 = .ok (.aload_n 0, 1) := by decide +kernel
theorem dX5_init_5 : decode cX5_init 5 = .ok (.bipush 40, 2) := by decide +kernel
theorem dX5_init_7 : decode cX5_init 7 = .ok (.newarray .int, 2) := by decide +kernel
theorem dX5_init_9 : decode cX5_init 9 = .ok (.putfield 9, 3) := by decide +kernel
theorem dX5_init_12 : decode cX5_init 12 = .ok (.return_, 1) := by decide +kernel
theorem dX5_add_0 : decode cX5_add 0 = .ok (.aload_n 0, 1) := by decide +kernel
theorem dX5_add_1 : decode cX5_add 1 = .ok (.getfield 15, 3) := by decide +kernel
theorem dX5_add_4 : decode cX5_add 4 = .ok (.bipush 40, 2) := by decide +kernel
theorem dX5_add_6 : decode cX5_add 6 = .ok (.if_icmp .ge 23, 3) := by decide +kernel
theorem dX5_add_9 : decode cX5_add 9 = .ok (.aload_n 0, 1) := by decide +kernel
theorem dX5_add_10 : decode cX5_add 10 = .ok (.getfield 9, 3) := by decide +kernel
theorem dX5_add_13 : decode cX5_add 13 = .ok (.aload_n 0, 1) := by decide +kernel
theorem dX5_add_14 : decode cX5_add 14 = .ok (.getfield 15, 3) := by decide +kernel
theorem dX5_add_17 : decode cX5_add 17 = .ok (.iload_n 1, 1) := by decide +kernel
theorem dX5_add_18 : decode cX5_add 18 = .ok (.iastore, 1) := by decide +kernel
theorem dX5_add_19 : decode cX5_add 19 = .ok (.aload_n 0, 1) := by decide +kernel
theorem dX5_add_20 : decode cX5_add 20 = .ok (.dup, 1) := by decide +kernel
theorem dX5_add_21 : decode cX5_add 21 = .ok (.getfield 15, 3) := by decide +kernel
theorem dX5_add_24 : decode cX5_add 24 = .ok (.iconst 1, 1) := by decide +kernel
theorem dX5_add_25 : decode cX5_add 25 = .ok (.iadd, 1) := by decide +kernel
theorem dX5_add_26 : decode cX5_add 26 = .ok (.putfield 15, 3) := by decide +kernel
theorem dX5_add_29 : decode cX5_add 29 = .ok (.return_, 1) := by decide +kernel
theorem dX5_clear_0 : decode cX5_clear 0 = .ok (.aload_n 0, 1) := by decide +kernel
theorem dX5_clear_1 : decode cX5_clear 1 = .ok (.iconst 0, 1) := by decide +kernel
theorem dX5_clear_2 : decode cX5_clear 2 = .ok (.putfield 15, 3) := by decide +kernel
theorem dX5_clear_5 : decode cX5_clear 5 = .ok (.return_, 1) := by decide +kernel
theorem dX5_readName_0 : decode cX5_readName 0 = .ok (.aload_n 0, 1) := by decide +kernel
theorem dX5_readName_1 : decode cX5_readName 1 = .ok (.iconst 0, 1) := by decide +kernel
theorem dX5_readName_2 : decode cX5_readName 2 = .ok (.putfield 19, 3) := by decide +kernel
theorem dX5_readName_5 : decode cX5_readName 5 = .ok (.aload_n 0, 1) := by decide +kernel
theorem dX5_readName_6 : decode cX5_readName 6 = .ok (.bipush 65, 2) := by decide +kernel
theorem dX5_readName_8 : decode cX5_readName 8 = .ok (.iconst 3, 1) := by decide +kernel
theorem dX5_readName_9 : decode cX5_readName 9 = .ok (.invokevirtual 22, 3) := by decide +kernel
theorem dX5_readName_12 : decode cX5_readName 12 = .ok (.istore_n 1, 1) := by decide +kernel
theorem dX5_readName_13 : decode cX5_readName 13 = .ok (.aload_n 0, 1) := by decide +kernel
theorem dX5_readName_14 : decode cX5_readName 14 = .ok (.getfield 19, 3) := by decide +kernel
theorem dX5_readName_17 : decode cX5_readName 17 = .ok (.aload_n 0, 1) := by decide +kernel
theorem dX5_readName_18 : decode cX5_readName 18 = .ok (.getfield 15, 3) := by decide +kernel
theorem dX5_readName_21 : decode cX5_readName 21 = .ok (.if_icmp .ne 7, 3) := by decide +kernel
theorem dX5_readName_24 : decode cX5_readName 24 = .ok (.iload_n 1, 1) := by decide +kernel
theorem dX5_readName_25 : decode cX5_readName 25 = .ok (.goto 4, 3) := by decide +kernel
theorem dX5_readName_28 : decode cX5_readName 28 = .ok (.iconst 0, 1) := by decide +kernel
theorem dX5_readName_29 : decode cX5_readName 29 = .ok (.ireturn, 1) := by decide +kernel
theorem dX5_readPacket_0 : decode cX5_readPacket 0 = .ok (.aload_n 0, 1) := by decide +kernel
theorem dX5_readPacket_1 : decode cX5_readPacket 1 = .ok (.iconst 0, 1) := by decide +kernel
theorem dX5_readPacket_2 : decode cX5_readPacket 2 = .ok (.putfield 19, 3) := by decide +kernel
theorem dX5_readPacket_5 : decode cX5_readPacket 5 = .ok (.aload_n 1, 1) := by decide +kernel
theorem dX5_readPacket_6 : decode cX5_readPacket 6 = .ok (.invokevirtual 26, 3) := by decide +kernel
theorem dX5_readPacket_9 : decode cX5_readPacket 9 = .ok (.aload_n 1, 1) := by decide +kernel
theorem dX5_readPacket_10 : decode cX5_readPacket 10 = .ok (.aload_n 0, 1) := by decide +kernel
theorem dX5_readPacket_11 : decode cX5_readPacket 11 = .ok (.bipush 65, 2) := by decide +kernel
theorem dX5_readPacket_13 : decode cX5_readPacket 13 = .ok (.iconst 3, 1) := by decide +kernel
theorem dX5_readPacket_14 : decode cX5_readPacket 14 = .ok (.invokevirtual 22, 3) := by decide +kernel
theorem dX5_readPacket_17 : decode cX5_readPacket 17 = .ok (.putfield 31, 3) := by decide +kernel
theorem dX5_readPacket_20 : decode cX5_readPacket 20 = .ok (.aload_n 1, 1) := by decide +kernel
theorem dX5_readPacket_21 : decode cX5_readPacket 21 = .ok (.getfield 31, 3) := by decide +kernel
theorem dX5_readPacket_24 : decode cX5_readPacket 24 = .ok (.ifCond .eq 29, 3) := by decide +kernel
theorem dX5_readPacket_27 : decode cX5_readPacket 27 = .ok (.aload_n 0, 1) := by decide +kernel
theorem dX5_readPacket_28 : decode cX5_readPacket 28 = .ok (.bipush 62, 2) := by decide +kernel
theorem dX5_readPacket_30 : decode cX5_readPacket 30 = .ok (.invokevirtual 34, 3) := by decide +kernel
theorem dX5_readPacket_33 : decode cX5_readPacket 33 = .ok (.ifCond .eq 20, 3) := by decide +kernel
theorem dX5_readPacket_36 : decode cX5_readPacket 36 = .ok (.aload_n 0, 1) := by decide +kernel
theorem dX5_readPacket_37 : decode cX5_readPacket 37 = .ok (.aload_n 1, 1) := by decide +kernel
theorem dX5_readPacket_38 : decode cX5_readPacket 38 = .ok (.invokevirtual 38, 3) := by decide +kernel
theorem dX5_readPacket_41 : decode cX5_readPacket 41 = .ok (.ifCond .eq 12, 3) := by decide +kernel
theorem dX5_readPacket_44 : decode cX5_readPacket 44 = .ok (.aload_n 0, 1) := by decide +kernel
theorem dX5_readPacket_45 : decode cX5_readPacket 45 = .ok (.bipush 58, 2) := by decide +kernel
theorem dX5_readPacket_47 : decode cX5_readPacket 47 = .ok (.invokevirtual 34, 3) := by decide +kernel
theorem dX5_readPacket_50 : decode cX5_readPacket 50 = .ok (.ifCond .ne 8, 3) := by decide +kernel
theorem dX5_readPacket_53 : decode cX5_readPacket 53 = .ok (.aload_n 0, 1) := by decide +kernel
theorem dX5_readPacket_54 : decode cX5_readPacket 54 = .ok (.getfield 19, 3) := by decide +kernel
theorem dX5_readPacket_57 : decode cX5_readPacket 57 = .ok (.ireturn, 1) := by decide +kernel
theorem dX5_readPacket_58 : decode cX5_readPacket 58 = .ok (.aload_n 1, 1) := by decide +kernel
theorem dX5_readPacket_59 : decode cX5_readPacket 59 = .ok (.aload_n 0, 1) := by decide +kernel
theorem dX5_readPacket_60 : decode cX5_readPacket 60 = .ok (.bipush 97, 2) := by decide +kernel
theorem dX5_readPacket_62 : decode cX5_readPacket 62 = .ok (.iconst 4, 1) := by decide +kernel
theorem dX5_readPacket_63 : decode cX5_readPacket 63 = .ok (.invokevirtual 22, 3) := by decide +kernel
theorem dX5_readPacket_66 : decode cX5_readPacket 66 = .ok (.putfield 42, 3) := by decide +kernel
theorem dX5_readPacket_69 : decode cX5_readPacket 69 = .ok (.aload_n 1, 1) := by decide +kernel
theorem dX5_readPacket_70 : decode cX5_readPacket 70 = .ok (.getfield 42, 3) := by decide +kernel
theorem dX5_readPacket_73 : decode cX5_readPacket 73 = .ok (.ifCond .eq 14, 3) := by decide +kernel
theorem dX5_readPacket_76 : decode cX5_readPacket 76 = .ok (.aload_n 0, 1) := by decide +kernel
theorem dX5_readPacket_77 : decode cX5_readPacket 77 = .ok (.getfield 19, 3) := by decide +kernel
theorem dX5_readPacket_80 : decode cX5_readPacket 80 = .ok (.aload_n 0, 1) := by decide +kernel
theorem dX5_readPacket_81 : decode cX5_readPacket 81 = .ok (.getfield 15, 3) := by decide +kernel
theorem dX5_readPacket_84 : decode cX5_readPacket 84 = .ok (.if_icmp .ge 8, 3) := by decide +kernel
theorem dX5_readPacket_87 : decode cX5_readPacket 87 = .ok (.aload_n 0, 1) := by decide +kernel
theorem dX5_readPacket_88 : decode cX5_readPacket 88 = .ok (.getfield 19, 3) := by decide +kernel
theorem dX5_readPacket_91 : decode cX5_readPacket 91 = .ok (.ireturn, 1) := by decide +kernel
theorem dX5_readPacket_92 : decode cX5_readPacket 92 = .ok (.bipush (-6), 2) := by decide +kernel
theorem dX5_readPacket_94 : decode cX5_readPacket 94 = .ok (.ireturn, 1) := by decide +kernel
theorem dX5_readWords_0 : decode cX5_readWords 0 = .ok (.aload_n 0, 1) := by decide +kernel
theorem dX5_readWords_1 : decode cX5_readWords 1 = .ok (.invokevirtual 45, 3) := by decide +kernel
theorem dX5_readWords_4 : decode cX5_readWords 4 = .ok (.bipush 58, 2) := by decide +kernel
theorem dX5_readWords_6 : decode cX5_readWords 6 = .ok (.if_icmp .ne 5, 3) := by decide +kernel
theorem dX5_readWords_9 : decode cX5_readWords 9 = .ok (.iconst 1, 1) := by decide +kernel
theorem dX5_readWords_10 : decode cX5_readWords 10 = .ok (.ireturn, 1) := by decide +kernel
theorem dX5_readWords_11 : decode cX5_readWords 11 = .ok (.iconst 0, 1) := by decide +kernel
theorem dX5_readWords_12 : decode cX5_readWords 12 = .ok (.istore_n 2, 1) := by decide +kernel
theorem dX5_readWords_13 : decode cX5_readWords 13 = .ok (.iload_n 2, 1) := by decide +kernel
theorem dX5_readWords_14 : decode cX5_readWords 14 = .ok (.iconst 5, 1) := by decide +kernel
theorem dX5_readWords_15 : decode cX5_readWords 15 = .ok (.if_icmp .ge 34, 3) := by decide +kernel
theorem dX5_readWords_18 : decode cX5_readWords 18 = .ok (.iload_n 2, 1) := by decide +kernel
theorem dX5_readWords_19 : decode cX5_readWords 19 = .ok (.ifCond .le 14, 3) := by decide +kernel
theorem dX5_readWords_22 : decode cX5_readWords 22 = .ok (.aload_n 0, 1) := by decide +kernel
theorem dX5_readWords_23 : decode cX5_readWords 23 = .ok (.bipush 44, 2) := by decide +kernel
theorem dX5_readWords_25 : decode cX5_readWords 25 = .ok (.invokevirtual 34, 3) := by decide +kernel
theorem dX5_readWords_28 : decode cX5_readWords 28 = .ok (.ifCond .ne 5, 3) := by decide +kernel
theorem dX5_readWords_31 : decode cX5_readWords 31 = .ok (.iconst 1, 1) := by decide +kernel
theorem dX5_readWords_32 : decode cX5_readWords 32 = .ok (.ireturn, 1) := by decide +kernel
theorem dX5_readWords_33 : decode cX5_readWords 33 = .ok (.aload_n 0, 1) := by decide +kernel
theorem dX5_readWords_34 : decode cX5_readWords 34 = .ok (.aload_n 1, 1) := by decide +kernel
theorem dX5_readWords_35 : decode cX5_readWords 35 = .ok (.invokevirtual 49, 3) := by decide +kernel
theorem dX5_readWords_38 : decode cX5_readWords 38 = .ok (.ifCond .ne 5, 3) := by decide +kernel
theorem dX5_readWords_41 : decode cX5_readWords 41 = .ok (.iconst 0, 1) := by decide +kernel
theorem dX5_readWords_42 : decode cX5_readWords 42 = .ok (.ireturn, 1) := by decide +kernel
theorem dX5_readWords_43 : decode cX5_readWords 43 = .ok (.iinc 2 1, 3) := by decide +kernel
theorem dX5_readWords_46 : decode cX5_readWords 46 = .ok (.goto (-33), 3) := by decide +kernel
theorem dX5_readWords_49 : decode cX5_readWords 49 = .ok (.iconst 1, 1) := by decide +kernel
theorem dX5_readWords_50 : decode cX5_readWords 50 = .ok (.ireturn, 1) := by decide +kernel
theorem dX5_readWord_0 : decode cX5_readWord 0 = .ok (.aload_n 0, 1) := by decide +kernel
theorem dX5_readWord_1 : decode cX5_readWord 1 = .ok (.bipush 65, 2) := by decide +kernel
theorem dX5_readWord_3 : decode cX5_readWord 3 = .ok (.iconst 3, 1) := by decide +kernel
theorem dX5_readWord_4 : decode cX5_readWord 4 = .ok (.invokevirtual 22, 3) := by decide +kernel
theorem dX5_readWord_7 : decode cX5_readWord 7 = .ok (.istore_n 2, 1) := by decide +kernel
theorem dX5_readWord_8 : decode cX5_readWord 8 = .ok (.iload_n 2, 1) := by decide +kernel
theorem dX5_readWord_9 : decode cX5_readWord 9 = .ok (.ifCond .ne 5, 3) := by decide +kernel
theorem dX5_readWord_12 : decode cX5_readWord 12 = .ok (.iconst 0, 1) := by decide +kernel
theorem dX5_readWord_13 : decode cX5_readWord 13 = .ok (.ireturn, 1) := by decide +kernel
theorem dX5_readWord_14 : decode cX5_readWord 14 = .ok (.iconst 0, 1) := by decide +kernel
theorem dX5_readWord_15 : decode cX5_readWord 15 = .ok (.istore_n 3, 1) := by decide +kernel
theorem dX5_readWord_16 : decode cX5_readWord 16 = .ok (.aload_n 0, 1) := by decide +kernel
theorem dX5_readWord_17 : decode cX5_readWord 17 = .ok (.bipush 45, 2) := by decide +kernel
theorem dX5_readWord_19 : decode cX5_readWord 19 = .ok (.invokevirtual 34, 3) := by decide +kernel
theorem dX5_readWord_22 : decode cX5_readWord 22 = .ok (.ifCond .eq 30, 3) := by decide +kernel
theorem dX5_readWord_25 : decode cX5_readWord 25 = .ok (.aload_n 0, 1) := by decide +kernel
theorem dX5_readWord_26 : decode cX5_readWord 26 = .ok (.invokevirtual 45, 3) := by decide +kernel
theorem dX5_readWord_29 : decode cX5_readWord 29 = .ok (.bipush 48, 2) := by decide +kernel
theorem dX5_readWord_31 : decode cX5_readWord 31 = .ok (.isub, 1) := by decide +kernel
theorem dX5_readWord_32 : decode cX5_readWord 32 = .ok (.istore_n 3, 1) := by decide +kernel
theorem dX5_readWord_33 : decode cX5_readWord 33 = .ok (.iload_n 3, 1) := by decide +kernel
theorem dX5_readWord_34 : decode cX5_readWord 34 = .ok (.invokestatic 52, 3) := by decide +kernel
theorem dX5_readWord_37 : decode cX5_readWord 37 = .ok (.ifCond .ne 5, 3) := by decide +kernel
theorem dX5_readWord_40 : decode cX5_readWord 40 = .ok (.iconst 0, 1) := by decide +kernel
theorem dX5_readWord_41 : decode cX5_readWord 41 = .ok (.ireturn, 1) := by decide +kernel
theorem dX5_readWord_42 : decode cX5_readWord 42 = .ok (.aload_n 0, 1) := by decide +kernel
theorem dX5_readWord_43 : decode cX5_readWord 43 = .ok (.dup, 1) := by decide +kernel
theorem dX5_readWord_44 : decode cX5_readWord 44 = .ok (.getfield 19, 3) := by decide +kernel
theorem dX5_readWord_47 : decode cX5_readWord 47 = .ok (.iconst 1, 1) := by decide +kernel
theorem dX5_readWord_48 : decode cX5_readWord 48 = .ok (.iadd, 1) := by decide +kernel
theorem dX5_readWord_49 : decode cX5_readWord 49 = .ok (.putfield 19, 3) := by decide +kernel
theorem dX5_readWord_52 : decode cX5_readWord 52 = .ok (.aload_n 1, 1) := by decide +kernel
theorem dX5_readWord_53 : decode cX5_readWord 53 = .ok (.iload_n 2, 1) := by decide +kernel
theorem dX5_readWord_54 : decode cX5_readWord 54 = .ok (.iload_n 3, 1) := by decide +kernel
theorem dX5_readWord_55 : decode cX5_readWord 55 = .ok (.aload_n 0, 1) := by decide +kernel
theorem dX5_readWord_56 : decode cX5_readWord 56 = .ok (.bipush 42, 2) := by decide +kernel
theorem dX5_readWord_58 : decode cX5_readWord 58 = .ok (.invokevirtual 34, 3) := by decide +kernel
theorem dX5_readWord_61 : decode cX5_readWord 61 = .ok (.invokevirtual 55, 3) := by decide +kernel
theorem dX5_readWord_64 : decode cX5_readWord 64 = .ok (.iconst 1, 1) := by decide +kernel
theorem dX5_readWord_65 : decode cX5_readWord 65 = .ok (.ireturn, 1) := by decide +kernel
theorem dX5_readLetters_0 : decode cX5_readLetters 0 = .ok (.iconst 0, 1) := by decide +kernel
theorem dX5_readLetters_1 : decode cX5_readLetters 1 = .ok (.istore_n 3, 1) := by decide +kernel
theorem dX5_readLetters_2 : decode cX5_readLetters 2 = .ok (.iconst 0, 1) := by decide +kernel
theorem dX5_readLetters_3 : decode cX5_readLetters 3 = .ok (.istore 4, 2) := by decide +kernel
theorem dX5_readLetters_5 : decode cX5_readLetters 5 = .ok (.iload 4, 2) := by decide +kernel
theorem dX5_readLetters_7 : decode cX5_readLetters 7 = .ok (.iload_n 2, 1) := by decide +kernel
theorem dX5_readLetters_8 : decode cX5_readLetters 8 = .ok (.if_icmp .ge 51, 3) := by decide +kernel
theorem dX5_readLetters_11 : decode cX5_readLetters 11 = .ok (.aload_n 0, 1) := by decide +kernel
theorem dX5_readLetters_12 : decode cX5_readLetters 12 = .ok (.invokevirtual 45, 3) := by decide +kernel
theorem dX5_readLetters_15 : decode cX5_readLetters 15 = .ok (.iload_n 1, 1) := by decide +kernel
theorem dX5_readLetters_16 : decode cX5_readLetters 16 = .ok (.isub, 1) := by decide +kernel
theorem dX5_readLetters_17 : decode cX5_readLetters 17 = .ok (.iconst 1, 1) := by decide +kernel
theorem dX5_readLetters_18 : decode cX5_readLetters 18 = .ok (.iadd, 1) := by decide +kernel
theorem dX5_readLetters_19 : decode cX5_readLetters 19 = .ok (.istore 5, 2) := by decide +kernel
theorem dX5_readLetters_21 : decode cX5_readLetters 21 = .ok (.iload 5, 2) := by decide +kernel
theorem dX5_readLetters_23 : decode cX5_readLetters 23 = .ok (.iconst 1, 1) := by decide +kernel
theorem dX5_readLetters_24 : decode cX5_readLetters 24 = .ok (.if_icmp .lt 10, 3) := by decide +kernel
theorem dX5_readLetters_27 : decode cX5_readLetters 27 = .ok (.iload 5, 2) := by decide +kernel
theorem dX5_readLetters_29 : decode cX5_readLetters 29 = .ok (.bipush 26, 2) := by decide +kernel
theorem dX5_readLetters_31 : decode cX5_readLetters 31 = .ok (.if_icmp .le 5, 3) := by decide +kernel
theorem dX5_readLetters_34 : decode cX5_readLetters 34 = .ok (.iload_n 3, 1) := by decide +kernel
theorem dX5_readLetters_35 : decode cX5_readLetters 35 = .ok (.ireturn, 1) := by decide +kernel
theorem dX5_readLetters_36 : decode cX5_readLetters 36 = .ok (.iload_n 3, 1) := by decide +kernel
theorem dX5_readLetters_37 : decode cX5_readLetters 37 = .ok (.iconst 5, 1) := by decide +kernel
theorem dX5_readLetters_38 : decode cX5_readLetters 38 = .ok (.ishl, 1) := by decide +kernel
theorem dX5_readLetters_39 : decode cX5_readLetters 39 = .ok (.iload 5, 2) := by decide +kernel
theorem dX5_readLetters_41 : decode cX5_readLetters 41 = .ok (.ior, 1) := by decide +kernel
theorem dX5_readLetters_42 : decode cX5_readLetters 42 = .ok (.istore_n 3, 1) := by decide +kernel
theorem dX5_readLetters_43 : decode cX5_readLetters 43 = .ok (.aload_n 0, 1) := by decide +kernel
theorem dX5_readLetters_44 : decode cX5_readLetters 44 = .ok (.dup, 1) := by decide +kernel
theorem dX5_readLetters_45 : decode cX5_readLetters 45 = .ok (.getfield 19, 3) := by decide +kernel
theorem dX5_readLetters_48 : decode cX5_readLetters 48 = .ok (.iconst 1, 1) := by decide +kernel
theorem dX5_readLetters_49 : decode cX5_readLetters 49 = .ok (.iadd, 1) := by decide +kernel
theorem dX5_readLetters_50 : decode cX5_readLetters 50 = .ok (.putfield 19, 3) := by decide +kernel
theorem dX5_readLetters_53 : decode cX5_readLetters 53 = .ok (.iinc 4 1, 3) := by decide +kernel
theorem dX5_readLetters_56 : decode cX5_readLetters 56 = .ok (.goto (-51), 3) := by decide +kernel
theorem dX5_readLetters_59 : decode cX5_readLetters 59 = .ok (.iload_n 3, 1) := by decide +kernel
theorem dX5_readLetters_60 : decode cX5_readLetters 60 = .ok (.ireturn, 1) := by decide +kernel
theorem dX5_take_0 : decode cX5_take 0 = .ok (.aload_n 0, 1) := by decide +kernel
theorem dX5_take_1 : decode cX5_take 1 = .ok (.invokevirtual 45, 3) := by decide +kernel
theorem dX5_take_4 : decode cX5_take 4 = .ok (.iload_n 1, 1) := by decide +kernel
theorem dX5_take_5 : decode cX5_take 5 = .ok (.if_icmp .eq 5, 3) := by decide +kernel
theorem dX5_take_8 : decode cX5_take 8 = .ok (.iconst 0, 1) := by decide +kernel
theorem dX5_take_9 : decode cX5_take 9 = .ok (.ireturn, 1) := by decide +kernel
theorem dX5_take_10 : decode cX5_take 10 = .ok (.aload_n 0, 1) := by decide +kernel
theorem dX5_take_11 : decode cX5_take 11 = .ok (.dup, 1) := by decide +kernel
theorem dX5_take_12 : decode cX5_take 12 = .ok (.getfield 19, 3) := by decide +kernel
theorem dX5_take_15 : decode cX5_take 15 = .ok (.iconst 1, 1) := by decide +kernel
theorem dX5_take_16 : decode cX5_take 16 = .ok (.iadd, 1) := by decide +kernel
theorem dX5_take_17 : decode cX5_take 17 = .ok (.putfield 19, 3) := by decide +kernel
theorem dX5_take_20 : decode cX5_take 20 = .ok (.iconst 1, 1) := by decide +kernel
theorem dX5_take_21 : decode cX5_take 21 = .ok (.ireturn, 1) := by decide +kernel
theorem dX5_peek_0 : decode cX5_peek 0 = .ok (.aload_n 0, 1) := by decide +kernel
theorem dX5_peek_1 : decode cX5_peek 1 = .ok (.getfield 19, 3) := by decide +kernel
theorem dX5_peek_4 : decode cX5_peek 4 = .ok (.ifCond .lt 35, 3) := by decide +kernel
theorem dX5_peek_7 : decode cX5_peek 7 = .ok (.aload_n 0, 1) := by decide +kernel
theorem dX5_peek_8 : decode cX5_peek 8 = .ok (.getfield 19, 3) := by decide +kernel
theorem dX5_peek_11 : decode cX5_peek 11 = .ok (.aload_n 0, 1) := by decide +kernel
theorem dX5_peek_12 : decode cX5_peek 12 = .ok (.getfield 15, 3) := by decide +kernel
theorem dX5_peek_15 : decode cX5_peek 15 = .ok (.if_icmp .ge 24, 3) := by decide +kernel
theorem dX5_peek_18 : decode cX5_peek 18 = .ok (.aload_n 0, 1) := by decide +kernel
theorem dX5_peek_19 : decode cX5_peek 19 = .ok (.getfield 19, 3) := by decide +kernel
theorem dX5_peek_22 : decode cX5_peek 22 = .ok (.bipush 40, 2) := by decide +kernel
theorem dX5_peek_24 : decode cX5_peek 24 = .ok (.if_icmp .ge 15, 3) := by decide +kernel
theorem dX5_peek_27 : decode cX5_peek 27 = .ok (.aload_n 0, 1) := by decide +kernel
theorem dX5_peek_28 : decode cX5_peek 28 = .ok (.getfield 9, 3) := by decide +kernel
theorem dX5_peek_31 : decode cX5_peek 31 = .ok (.aload_n 0, 1) := by decide +kernel
theorem dX5_peek_32 : decode cX5_peek 32 = .ok (.getfield 19, 3) := by decide +kernel
theorem dX5_peek_35 : decode cX5_peek 35 = .ok (.iaload, 1) := by decide +kernel
theorem dX5_peek_36 : decode cX5_peek 36 = .ok (.goto 4, 3) := by decide +kernel
theorem dX5_peek_39 : decode cX5_peek 39 = .ok (.iconst 0, 1) := by decide +kernel
theorem dX5_peek_40 : decode cX5_peek 40 = .ok (.ireturn, 1) := by decide +kernel
theorem dX6_init_0 : decode cX6_init 0 = .ok (.aload_n 0, 1) := by decide +kernel
theorem dX6_init_1 : decode cX6_init 1 = .ok (.invokespecial 3, 3) := by decide +kernel
theorem dX6_init_4 : decode cX6_init 4 = .ok (.aload_n 0, 1) := by decide +kernel
theorem dX6_init_5 : decode cX6_init 5 = .ok (.new 9, 3) := by decide +kernel
theorem dX6_init_8 : decode cX6_init 8 = .ok (.dup, 1) := by decide +kernel
theorem dX6_init_9 : decode cX6_init 9 = .ok (.invokespecial 11, 3) := by decide +kernel
theorem dX6_init_12 : decode cX6_init 12 = .ok (.putfield 12, 3) := by decide +kernel
theorem dX6_init_15 : decode cX6_init 15 = .ok (.aload_n 0, 1) := by decide +kernel
theorem dX6_init_16 : decode cX6_init 16 = .ok (.new 9, 3) := by decide +kernel
theorem dX6_init_19 : decode cX6_init 19 = .ok (.dup, 1) := by decide +kernel
theorem dX6_init_20 : decode cX6_init 20 = .ok (.invokespecial 11, 3) := by decide +kernel
theorem dX6_init_23 : decode cX6_init 23 = .ok (.putfield 18, 3) := by decide +kernel
theorem dX6_init_26 : decode cX6_init 26 = .ok (.aload_n 0, 1) := by decide +kernel
theorem dX6_init_27 : decode cX6_init 27 = .ok (.iconst 3, 1) := by decide +kernel
theorem dX6_init_28 : decode cX6_init 28 = .ok (.putfield 21, 3) := by decide +kernel
theorem dX6_init_31 : decode cX6_init 31 = .ok (.aload_n 0, 1) := by decide +kernel
theorem dX6_init_32 : decode cX6_init 32 = .ok (.iconst 1, 1) := by decide +kernel
theorem dX6_init_33 : decode cX6_init 33 = .ok (.putfield 25, 3) := by decide +kernel
theorem dX6_init_36 : decode cX6_init 36 = .ok (.aload_n 0, 1) := by decide +kernel
theorem dX6_init_37 : decode cX6_init 37 = .ok (.bipush 10, 2) := by decide +kernel
theorem dX6_init_39 : decode cX6_init 39 = .ok (.putfield 28, 3) := by decide +kernel
theorem dX6_init_42 : decode cX6_init 42 = .ok (.aload_n 0, 1) := by decide +kernel
theorem dX6_init_43 : decode cX6_init 43 = .ok (.bipush 9, 2) := by decide +kernel
theorem dX6_init_45 : decode cX6_init 45 = .ok (.newarray .int, 2) := by decide +kernel
theorem dX6_init_47 : decode cX6_init 47 = .ok (.putfield 31, 3) := by decide +kernel
theorem dX6_init_50 : decode cX6_init 50 = .ok (.aload_n 0, 1) := by decide +kernel
theorem dX6_init_51 : decode cX6_init 51 = .ok (.new 35, 3) := by decide +kernel
theorem dX6_init_54 : decode cX6_init 54 = .ok (.dup, 1) := by decide +kernel
theorem dX6_init_55 : decode cX6_init 55 = .ok (.invokespecial 37, 3) := by decide +kernel
theorem dX6_init_58 : decode cX6_init 58 = .ok (.putfield 38, 3) := by decide +kernel
theorem dX6_init_61 : decode cX6_init 61 = .ok (.aload_n 0, 1) := by decide +kernel
theorem dX6_init_62 : decode cX6_init 62 = .ok (.new 42, 3) := by decide +kernel
theorem dX6_init_65 : decode cX6_init 65 = .ok (.dup, 1) := by decide +kernel
theorem dX6_init_66 : decode cX6_init 66 = .ok (.invokespecial 44, 3) := by decide +kernel
theorem dX6_init_69 : decode cX6_init 69 = .ok (.putfield 45, 3) := by decide +kernel
theorem dX6_init_72 : decode cX6_init 72 = .ok (.aload_n 0, 1) := by decide +kernel
theorem dX6_init_73 : decode cX6_init 73 = .ok (.new 49, 3) := by decide +kernel
theorem dX6_init_76 : decode cX6_init 76 = .ok (.dup, 1) := by decide +kernel
theorem dX6_init_77 : decode cX6_init 77 = .ok (.invokespecial 51, 3) := by decide +kernel
theorem dX6_init_80 : decode cX6_init 80 = .ok (.putfield 52, 3) := by decide +kernel
theorem dX6_init_83 : decode cX6_init 83 = .ok (.aload_n 0, 1) := by decide +kernel
theorem dX6_init_84 : decode cX6_init 84 = .ok (.new 49, 3) := by decide +kernel
theorem dX6_init_87 : decode cX6_init 87 = .ok (.dup, 1) := by decide +kernel
theorem dX6_init_88 : decode cX6_init 88 = .ok (.invokespecial 51, 3) := by decide +kernel
theorem dX6_init_91 : decode cX6_init 91 = .ok (.putfield 56, 3) := by decide +kernel
theorem dX6_init_94 : decode cX6_init 94 = .ok (.aload_n 0, 1) := by decide +kernel
theorem dX6_init_95 : decode cX6_init 95 = .ok (.new 49, 3) := by decide +kernel
theorem dX6_init_98 : decode cX6_init 98 = .ok (.dup, 1) := by decide +kernel
theorem dX6_init_99 : decode cX6_init 99 = .ok (.invokespecial 51, 3) := by decide +kernel
theorem dX6_init_102 : decode cX6_init 102 = .ok (.putfield 59, 3) := by decide +kernel
theorem dX6_init_105 : decode cX6_init 105 = .ok (.aload_n 0, 1) := by decide +kernel
theorem dX6_init_106 : decode cX6_init 106 = .ok (.iload_n 1, 1) := by decide +kernel
theorem dX6_init_107 : decode cX6_init 107 = .ok (.putfield 62, 3) := by decide +kernel
theorem dX6_init_110 : decode cX6_init 110 = .ok (.return_, 1) := by decide +kernel
theorem dX6_copyFrom_0 : decode cX6_copyFrom 0 = .ok (.aload_n 0, 1) := by decide +kernel
theorem dX6_copyFrom_1 : decode cX6_copyFrom 1 = .ok (.aload_n 1, 1) := by decide +kernel
theorem dX6_copyFrom_2 : decode cX6_copyFrom 2 = .ok (.invokevirtual 65, 3) := by decide +kernel
theorem dX6_copyFrom_5 : decode cX6_copyFrom 5 = .ok (.aload_n 1, 1) := by decide +kernel
theorem dX6_copyFrom_6 : decode cX6_copyFrom 6 = .ok (.getfield 31, 3) := by decide +kernel
theorem dX6_copyFrom_9 : decode cX6_copyFrom 9 = .ok (.iconst 0, 1) := by decide +kernel
theorem dX6_copyFrom_10 : decode cX6_copyFrom 10 = .ok (.aload_n 0, 1) := by decide +kernel
theorem dX6_copyFrom_11 : decode cX6_copyFrom 11 = .ok (.getfield 31, 3) := by decide +kernel
theorem dX6_copyFrom_14 : decode cX6_copyFrom 14 = .ok (.iconst 0, 1) := by decide +kernel
theorem dX6_copyFrom_15 : decode cX6_copyFrom 15 = .ok (.bipush 9, 2) := by decide +kernel
theorem dX6_copyFrom_17 : decode cX6_copyFrom 17 = .ok (.invokestatic 69, 3) := by decide +kernel
theorem dX6_copyFrom_20 : decode cX6_copyFrom 20 = .ok (.aload_n 0, 1) := by decide +kernel
theorem dX6_copyFrom_21 : decode cX6_copyFrom 21 = .ok (.getfield 38, 3) := by decide +kernel
theorem dX6_copyFrom_24 : decode cX6_copyFrom 24 = .ok (.aload_n 1, 1) := by decide +kernel
theorem dX6_copyFrom_25 : decode cX6_copyFrom 25 = .ok (.getfield 38, 3) := by decide +kernel
theorem dX6_copyFrom_28 : decode cX6_copyFrom 28 = .ok (.invokevirtual 75, 3) := by decide +kernel
theorem dX6_copyFrom_31 : decode cX6_copyFrom 31 = .ok (.aload_n 0, 1) := by decide +kernel
theorem dX6_copyFrom_32 : decode cX6_copyFrom 32 = .ok (.getfield 45, 3) := by decide +kernel
theorem dX6_copyFrom_35 : decode cX6_copyFrom 35 = .ok (.aload_n 1, 1) := by decide +kernel
theorem dX6_copyFrom_36 : decode cX6_copyFrom 36 = .ok (.getfield 45, 3) := by decide +kernel
theorem dX6_copyFrom_39 : decode cX6_copyFrom 39 = .ok (.invokevirtual 79, 3) := by decide +kernel
theorem dX6_copyFrom_42 : decode cX6_copyFrom 42 = .ok (.aload_n 0, 1) := by decide +kernel
theorem dX6_copyFrom_43 : decode cX6_copyFrom 43 = .ok (.getfield 52, 3) := by decide +kernel
theorem dX6_copyFrom_46 : decode cX6_copyFrom 46 = .ok (.aload_n 1, 1) := by decide +kernel
theorem dX6_copyFrom_47 : decode cX6_copyFrom 47 = .ok (.getfield 52, 3) := by decide +kernel
theorem dX6_copyFrom_50 : decode cX6_copyFrom 50 = .ok (.invokevirtual 82, 3) := by decide +kernel
theorem dX6_copyFrom_53 : decode cX6_copyFrom 53 = .ok (.aload_n 0, 1) := by decide +kernel
theorem dX6_copyFrom_54 : decode cX6_copyFrom 54 = .ok (.aload_n 1, 1) := by decide +kernel
theorem dX6_copyFrom_55 : decode cX6_copyFrom 55 = .ok (.getfield 85, 3) := by decide +kernel
theorem dX6_copyFrom_58 : decode cX6_copyFrom 58 = .ok (.putfield 85, 3) := by decide +kernel
theorem dX6_copyFrom_61 : decode cX6_copyFrom 61 = .ok (.return_, 1) := by decide +kernel
theorem dX6_beginLike_0 : decode cX6_beginLike 0 = .ok (.aload_n 0, 1) := by decide +kernel
theorem dX6_beginLike_1 : decode cX6_beginLike 1 = .ok (.aload_n 1, 1) := by decide +kernel
theorem dX6_beginLike_2 : decode cX6_beginLike 2 = .ok (.invokevirtual 65, 3) := by decide +kernel
theorem dX6_beginLike_5 : decode cX6_beginLike 5 = .ok (.iconst 0, 1) := by decide +kernel
theorem dX6_beginLike_6 : decode cX6_beginLike 6 = .ok (.istore_n 2, 1) := by decide +kernel
theorem dX6_beginLike_7 : decode cX6_beginLike 7 = .ok (.iload_n 2, 1) := by decide +kernel
theorem dX6_beginLike_8 : decode cX6_beginLike 8 = .ok (.bipush 9, 2) := by decide +kernel
theorem dX6_beginLike_10 : decode cX6_beginLike 10 = .ok (.if_icmp .ge 16, 3) := by decide +kernel
theorem dX6_beginLike_13 : decode cX6_beginLike 13 = .ok (.aload_n 0, 1) := by decide +kernel
theorem dX6_beginLike_14 : decode cX6_beginLike 14 = .ok (.getfield 31, 3) := by decide +kernel
theorem dX6_beginLike_17 : decode cX6_beginLike 17 = .ok (.iload_n 2, 1) := by decide +kernel
theorem dX6_beginLike_18 : decode cX6_beginLike 18 = .ok (.iconst 0, 1) := by decide +kernel
theorem dX6_beginLike_19 : decode cX6_beginLike 19 = .ok (.iastore, 1) := by decide +kernel
theorem dX6_beginLike_20 : decode cX6_beginLike 20 = .ok (.iinc 2 1, 3) := by decide +kernel
theorem dX6_beginLike_23 : decode cX6_beginLike 23 = .ok (.goto (-16), 3) := by decide +kernel
theorem dX6_beginLike_26 : decode cX6_beginLike 26 = .ok (.aload_n 0, 1) := by decide +kernel
theorem dX6_beginLike_27 : decode cX6_beginLike 27 = .ok (.getfield 38, 3) := by decide +kernel
theorem dX6_beginLike_30 : decode cX6_beginLike 30 = .ok (.invokevirtual 88, 3) := by decide +kernel
theorem dX6_beginLike_33 : decode cX6_beginLike 33 = .ok (.aload_n 0, 1) := by decide +kernel
theorem dX6_beginLike_34 : decode cX6_beginLike 34 = .ok (.getfield 45, 3) := by decide +kernel
theorem dX6_beginLike_37 : decode cX6_beginLike 37 = .ok (.invokevirtual 91, 3) := by decide +kernel
theorem dX6_beginLike_40 : decode cX6_beginLike 40 = .ok (.return_, 1) := by decide +kernel
theorem dX6_copySettings_0 : decode cX6_copySettings 0 = .ok (.aload_n 0, 1) := by decide +kernel
theorem dX6_copySettings_1 : decode cX6_copySettings 1 = .ok (.aload_n 1, 1) := by decide +kernel
theorem dX6_copySettings_2 : decode cX6_copySettings 2 = .ok (.getfield 62, 3) := by decide +kernel
theorem dX6_copySettings_5 : decode cX6_copySettings 5 = .ok (.putfield 62, 3) := by decide +kernel
theorem dX6_copySettings_8 : decode cX6_copySettings 8 = .ok (.aload_n 0, 1) := by decide +kernel
theorem dX6_copySettings_9 : decode cX6_copySettings 9 = .ok (.getfield 12, 3) := by decide +kernel
theorem dX6_copySettings_12 : decode cX6_copySettings 12 = .ok (.aload_n 1, 1) := by decide +kernel
theorem dX6_copySettings_13 : decode cX6_copySettings 13 = .ok (.getfield 12, 3) := by decide +kernel
theorem dX6_copySettings_16 : decode cX6_copySettings 16 = .ok (.invokevirtual 92, 3) := by decide +kernel
theorem dX6_copySettings_19 : decode cX6_copySettings 19 = .ok (.aload_n 0, 1) := by decide +kernel
theorem dX6_copySettings_20 : decode cX6_copySettings 20 = .ok (.getfield 18, 3) := by decide +kernel
theorem dX6_copySettings_23 : decode cX6_copySettings 23 = .ok (.aload_n 1, 1) := by decide +kernel
theorem dX6_copySettings_24 : decode cX6_copySettings 24 = .ok (.getfield 18, 3) := by decide +kernel
theorem dX6_copySettings_27 : decode cX6_copySettings 27 = .ok (.invokevirtual 92, 3) := by decide +kernel
theorem dX6_copySettings_30 : decode cX6_copySettings 30 = .ok (.aload_n 0, 1) := by decide +kernel
theorem dX6_copySettings_31 : decode cX6_copySettings 31 = .ok (.aload_n 1, 1) := by decide +kernel
theorem dX6_copySettings_32 : decode cX6_copySettings 32 = .ok (.getfield 21, 3) := by decide +kernel
theorem dX6_copySettings_35 : decode cX6_copySettings 35 = .ok (.putfield 21, 3) := by decide +kernel
theorem dX6_copySettings_38 : decode cX6_copySettings 38 = .ok (.aload_n 0, 1) := by decide +kernel
theorem dX6_copySettings_39 : decode cX6_copySettings 39 = .ok (.aload_n 1, 1) := by decide +kernel
theorem dX6_copySettings_40 : decode cX6_copySettings 40 = .ok (.getfield 25, 3) := by decide +kernel
theorem dX6_copySettings_43 : decode cX6_copySettings 43 = .ok (.putfield 25, 3) := by decide +kernel
theorem dX6_copySettings_46 : decode cX6_copySettings 46 = .ok (.aload_n 0, 1) := by decide +kernel
theorem dX6_copySettings_47 : decode cX6_copySettings 47 = .ok (.aload_n 1, 1) := by decide +kernel
theorem dX6_copySettings_48 : decode cX6_copySettings 48 = .ok (.getfield 28, 3) := by decide +kernel
theorem dX6_copySettings_51 : decode cX6_copySettings 51 = .ok (.putfield 28, 3) := by decide +kernel
theorem dX6_copySettings_54 : decode cX6_copySettings 54 = .ok (.return_, 1) := by decide +kernel
theorem dX6_hasHeard_0 : decode cX6_hasHeard 0 = .ok (.aload_n 0, 1) := by decide +kernel
theorem dX6_hasHeard_1 : decode cX6_hasHeard 1 = .ok (.getfield 31, 3) := by decide +kernel
theorem dX6_hasHeard_4 : decode cX6_hasHeard 4 = .ok (.iconst 1, 1) := by decide +kernel
theorem dX6_hasHeard_5 : decode cX6_hasHeard 5 = .ok (.iaload, 1) := by decide +kernel
theorem dX6_hasHeard_6 : decode cX6_hasHeard 6 = .ok (.ifCond .le 7, 3) := by decide +kernel
theorem dX6_hasHeard_9 : decode cX6_hasHeard 9 = .ok (.iconst 1, 1) := by decide +kernel
theorem dX6_hasHeard_10 : decode cX6_hasHeard 10 = .ok (.goto 4, 3) := by decide +kernel
theorem dX6_hasHeard_13 : decode cX6_hasHeard 13 = .ok (.iconst 0, 1) := by decide +kernel
theorem dX6_hasHeard_14 : decode cX6_hasHeard 14 = .ok (.ireturn, 1) := by decide +kernel
theorem dX6_originate_0 : decode cX6_originate 0 = .ok (.aload_n 0, 1) := by decide +kernel
theorem dX6_originate_1 : decode cX6_originate 1 = .ok (.getfield 38, 3) := by decide +kernel
theorem dX6_originate_4 : decode cX6_originate 4 = .ok (.aload_n 1, 1) := by decide +kernel
theorem dX6_originate_5 : decode cX6_originate 5 = .ok (.iload_n 2, 1) := by decide +kernel
theorem dX6_originate_6 : decode cX6_originate 6 = .ok (.invokevirtual 95, 3) := by decide +kernel
theorem dX6_originate_9 : decode cX6_originate 9 = .ok (.pop, 1) := by decide +kernel
theorem dX6_originate_10 : decode cX6_originate 10 = .ok (.aload_n 0, 1) := by decide +kernel
theorem dX6_originate_11 : decode cX6_originate 11 = .ok (.getfield 45, 3) := by decide +kernel
theorem dX6_originate_14 : decode cX6_originate 14 = .ok (.aload_n 0, 1) := by decide +kernel
theorem dX6_originate_15 : decode cX6_originate 15 = .ok (.getfield 45, 3) := by decide +kernel
theorem dX6_originate_18 : decode cX6_originate 18 = .ok (.aload_n 1, 1) := by decide +kernel
theorem dX6_originate_19 : decode cX6_originate 19 = .ok (.invokevirtual 99, 3) := by decide +kernel
theorem dX6_originate_22 : decode cX6_originate 22 = .ok (.invokevirtual 103, 3) := by decide +kernel
theorem dX6_originate_25 : decode cX6_originate 25 = .ok (.aload_n 0, 1) := by decide +kernel
theorem dX6_originate_26 : decode cX6_originate 26 = .ok (.getfield 45, 3) := by decide +kernel
theorem dX6_originate_29 : decode cX6_originate 29 = .ok (.aload_n 1, 1) := by decide +kernel
theorem dX6_originate_30 : decode cX6_originate 30 = .ok (.iload_n 2, 1) := by decide +kernel
theorem dX6_originate_31 : decode cX6_originate 31 = .ok (.invokevirtual 107, 3) := by decide +kernel
theorem dX6_originate_34 : decode cX6_originate 34 = .ok (.return_, 1) := by decide +kernel
theorem dX6_startSending_0 : decode cX6_startSending 0 = .ok (.aload_n 0, 1) := by decide +kernel
