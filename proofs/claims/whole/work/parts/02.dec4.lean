theorem dX10_keptByAll_4 : decode cX10_keptByAll 4 = .ok (.iload_n 2, 1) := by decide +kernel
theorem dX10_keptByAll_5 : decode cX10_keptByAll 5 = .ok (.bipush 6, 2) := by decide +kernel
theorem dX10_keptByAll_7 : decode cX10_keptByAll 7 = .ok (.if_icmp .ge 22, 3) := by decide +kernel
theorem dX10_keptByAll_10 : decode cX10_keptByAll 10 = .ok (.iload_n 1, 1) := by decide +kernel
theorem dX10_keptByAll_11 : decode cX10_keptByAll 11 = .ok (.aload_n 0, 1) := by decide +kernel
theorem dX10_keptByAll_12 : decode cX10_keptByAll 12 = .ok (.getfield 7, 3) := by decide +kernel
theorem dX10_keptByAll_15 : decode cX10_keptByAll 15 = .ok (.sipush 150, 3) := by decide +kernel
theorem dX10_keptByAll_18 : decode cX10_keptByAll 18 = .ok (.iload_n 2, 1) := by decide +kernel
theorem dX10_keptByAll_19 : decode cX10_keptByAll 19 = .ok (.iadd, 1) := by decide +kernel
theorem dX10_keptByAll_20 : decode cX10_keptByAll 20 = .ok (.iaload, 1) := by decide +kernel
theorem dX10_keptByAll_21 : decode cX10_keptByAll 21 = .ok (.iadd, 1) := by decide +kernel
theorem dX10_keptByAll_22 : decode cX10_keptByAll 22 = .ok (.istore_n 1, 1) := by decide +kernel
theorem dX10_keptByAll_23 : decode cX10_keptByAll 23 = .ok (.iinc 2 1, 3) := by decide +kernel
theorem dX10_keptByAll_26 : decode cX10_keptByAll 26 = .ok (.goto (-22), 3) := by decide +kernel
theorem dX10_keptByAll_29 : decode cX10_keptByAll 29 = .ok (.iload_n 1, 1) := by decide +kernel
theorem dX10_keptByAll_30 : decode cX10_keptByAll 30 = .ok (.ireturn, 1) := by decide +kernel
theorem dX10_run_0 : decode cX10_run 0 = .ok (.iload_n 1, 1) := by decide +kernel
theorem dX10_run_1 : decode cX10_run 1 = .ok (.iconst 1, 1) := by decide +kernel
theorem dX10_run_2 : decode cX10_run 2 = .ok (.bipush 50, 2) := by decide +kernel
theorem dX10_run_4 : decode cX10_run 4 = .ok (.invokestatic 41, 3) := by decide +kernel
theorem dX10_run_7 : decode cX10_run 7 = .ok (.ifCond .ne 6, 3) := by decide +kernel
theorem dX10_run_10 : decode cX10_run 10 = .ok (.bipush (-2), 2) := by decide +kernel
theorem dX10_run_12 : decode cX10_run 12 = .ok (.ireturn, 1) := by decide +kernel
theorem dX10_run_13 : decode cX10_run 13 = .ok (.iconst 0, 1) := by decide +kernel
theorem dX10_run_14 : decode cX10_run 14 = .ok (.istore_n 2, 1) := by decide +kernel
theorem dX10_run_15 : decode cX10_run 15 = .ok (.iload_n 2, 1) := by decide +kernel
theorem dX10_run_16 : decode cX10_run 16 = .ok (.iload_n 1, 1) := by decide +kernel
theorem dX10_run_17 : decode cX10_run 17 = .ok (.if_icmp .ge 13, 3) := by decide +kernel
theorem dX10_run_20 : decode cX10_run 20 = .ok (.aload_n 0, 1) := by decide +kernel
theorem dX10_run_21 : decode cX10_run 21 = .ok (.invokevirtual 151, 3) := by decide +kernel
theorem dX10_run_24 : decode cX10_run 24 = .ok (.iinc 2 1, 3) := by decide +kernel
theorem dX10_run_27 : decode cX10_run 27 = .ok (.goto (-12), 3) := by decide +kernel
theorem dX10_run_30 : decode cX10_run 30 = .ok (.aload_n 0, 1) := by decide +kernel
theorem dX10_run_31 : decode cX10_run 31 = .ok (.invokevirtual 154, 3) := by decide +kernel
theorem dX10_run_34 : decode cX10_run 34 = .ok (.ireturn, 1) := by decide +kernel
theorem dX10_heard_0 : decode cX10_heard 0 = .ok (.iload_n 1, 1) := by decide +kernel
theorem dX10_heard_1 : decode cX10_heard 1 = .ok (.invokestatic 78, 3) := by decide +kernel
theorem dX10_heard_4 : decode cX10_heard 4 = .ok (.ifCond .ne 5, 3) := by decide +kernel
theorem dX10_heard_7 : decode cX10_heard 7 = .ok (.iconst (-1), 1) := by decide +kernel
theorem dX10_heard_8 : decode cX10_heard 8 = .ok (.ireturn, 1) := by decide +kernel
theorem dX10_heard_9 : decode cX10_heard 9 = .ok (.iload_n 2, 1) := by decide +kernel
theorem dX10_heard_10 : decode cX10_heard 10 = .ok (.iconst 0, 1) := by decide +kernel
theorem dX10_heard_11 : decode cX10_heard 11 = .ok (.bipush 10, 2) := by decide +kernel
theorem dX10_heard_13 : decode cX10_heard 13 = .ok (.invokestatic 41, 3) := by decide +kernel
theorem dX10_heard_16 : decode cX10_heard 16 = .ok (.ifCond .ne 6, 3) := by decide +kernel
theorem dX10_heard_19 : decode cX10_heard 19 = .ok (.bipush (-2), 2) := by decide +kernel
theorem dX10_heard_21 : decode cX10_heard 21 = .ok (.ireturn, 1) := by decide +kernel
theorem dX10_heard_22 : decode cX10_heard 22 = .ok (.iload_n 2, 1) := by decide +kernel
theorem dX10_heard_23 : decode cX10_heard 23 = .ok (.bipush 9, 2) := by decide +kernel
theorem dX10_heard_25 : decode cX10_heard 25 = .ok (.if_icmp .ne 16, 3) := by decide +kernel
theorem dX10_heard_28 : decode cX10_heard 28 = .ok (.aload_n 0, 1) := by decide +kernel
theorem dX10_heard_29 : decode cX10_heard 29 = .ok (.getfield 7, 3) := by decide +kernel
theorem dX10_heard_32 : decode cX10_heard 32 = .ok (.sipush 150, 3) := by decide +kernel
theorem dX10_heard_35 : decode cX10_heard 35 = .ok (.iload_n 1, 1) := by decide +kernel
theorem dX10_heard_36 : decode cX10_heard 36 = .ok (.iadd, 1) := by decide +kernel
theorem dX10_heard_37 : decode cX10_heard 37 = .ok (.iaload, 1) := by decide +kernel
theorem dX10_heard_38 : decode cX10_heard 38 = .ok (.goto 36, 3) := by decide +kernel
theorem dX10_heard_41 : decode cX10_heard 41 = .ok (.iload_n 2, 1) := by decide +kernel
theorem dX10_heard_42 : decode cX10_heard 42 = .ok (.bipush 10, 2) := by decide +kernel
theorem dX10_heard_44 : decode cX10_heard 44 = .ok (.if_icmp .ne 16, 3) := by decide +kernel
theorem dX10_heard_47 : decode cX10_heard 47 = .ok (.aload_n 0, 1) := by decide +kernel
theorem dX10_heard_48 : decode cX10_heard 48 = .ok (.getfield 7, 3) := by decide +kernel
theorem dX10_heard_51 : decode cX10_heard 51 = .ok (.sipush 1020, 3) := by decide +kernel
theorem dX10_heard_54 : decode cX10_heard 54 = .ok (.iload_n 1, 1) := by decide +kernel
theorem dX10_heard_55 : decode cX10_heard 55 = .ok (.iadd, 1) := by decide +kernel
theorem dX10_heard_56 : decode cX10_heard 56 = .ok (.iaload, 1) := by decide +kernel
theorem dX10_heard_57 : decode cX10_heard 57 = .ok (.goto 17, 3) := by decide +kernel
theorem dX10_heard_60 : decode cX10_heard 60 = .ok (.aload_n 0, 1) := by decide +kernel
theorem dX10_heard_61 : decode cX10_heard 61 = .ok (.getfield 7, 3) := by decide +kernel
theorem dX10_heard_64 : decode cX10_heard 64 = .ok (.bipush 96, 2) := by decide +kernel
theorem dX10_heard_66 : decode cX10_heard 66 = .ok (.bipush 6, 2) := by decide +kernel
theorem dX10_heard_68 : decode cX10_heard 68 = .ok (.iload_n 2, 1) := by decide +kernel
theorem dX10_heard_69 : decode cX10_heard 69 = .ok (.imul, 1) := by decide +kernel
theorem dX10_heard_70 : decode cX10_heard 70 = .ok (.iadd, 1) := by decide +kernel
theorem dX10_heard_71 : decode cX10_heard 71 = .ok (.iload_n 1, 1) := by decide +kernel
theorem dX10_heard_72 : decode cX10_heard 72 = .ok (.iadd, 1) := by decide +kernel
theorem dX10_heard_73 : decode cX10_heard 73 = .ok (.iaload, 1) := by decide +kernel
theorem dX10_heard_74 : decode cX10_heard 74 = .ok (.ireturn, 1) := by decide +kernel
theorem dX10_put_0 : decode cX10_put 0 = .ok (.aload_n 0, 1) := by decide +kernel
theorem dX10_put_1 : decode cX10_put 1 = .ok (.getfield 38, 3) := by decide +kernel
theorem dX10_put_4 : decode cX10_put 4 = .ok (.aload_n 0, 1) := by decide +kernel
theorem dX10_put_5 : decode cX10_put 5 = .ok (.getfield 157, 3) := by decide +kernel
theorem dX10_put_8 : decode cX10_put 8 = .ok (.iload_n 1, 1) := by decide +kernel
theorem dX10_put_9 : decode cX10_put 9 = .ok (.iastore, 1) := by decide +kernel
theorem dX10_put_10 : decode cX10_put 10 = .ok (.aload_n 0, 1) := by decide +kernel
theorem dX10_put_11 : decode cX10_put 11 = .ok (.dup, 1) := by decide +kernel
theorem dX10_put_12 : decode cX10_put 12 = .ok (.getfield 157, 3) := by decide +kernel
theorem dX10_put_15 : decode cX10_put 15 = .ok (.iconst 1, 1) := by decide +kernel
theorem dX10_put_16 : decode cX10_put 16 = .ok (.iadd, 1) := by decide +kernel
theorem dX10_put_17 : decode cX10_put 17 = .ok (.putfield 157, 3) := by decide +kernel
theorem dX10_put_20 : decode cX10_put 20 = .ok (.return_, 1) := by decide +kernel
theorem dX10_putLetters_0 : decode cX10_putLetters 0 = .ok (.sipush 19683, 3) := by decide +kernel
theorem dX10_putLetters_3 : decode cX10_putLetters 3 = .ok (.istore_n 3, 1) := by decide +kernel
theorem dX10_putLetters_4 : decode cX10_putLetters 4 = .ok (.iload_n 3, 1) := by decide +kernel
theorem dX10_putLetters_5 : decode cX10_putLetters 5 = .ok (.ifCond .le 34, 3) := by decide +kernel
theorem dX10_putLetters_8 : decode cX10_putLetters 8 = .ok (.iload_n 1, 1) := by decide +kernel
theorem dX10_putLetters_9 : decode cX10_putLetters 9 = .ok (.iload_n 3, 1) := by decide +kernel
theorem dX10_putLetters_10 : decode cX10_putLetters 10 = .ok (.idiv, 1) := by decide +kernel
theorem dX10_putLetters_11 : decode cX10_putLetters 11 = .ok (.bipush 27, 2) := by decide +kernel
theorem dX10_putLetters_13 : decode cX10_putLetters 13 = .ok (.irem, 1) := by decide +kernel
theorem dX10_putLetters_14 : decode cX10_putLetters 14 = .ok (.ifCond .le 17, 3) := by decide +kernel
theorem dX10_putLetters_17 : decode cX10_putLetters 17 = .ok (.aload_n 0, 1) := by decide +kernel
theorem dX10_putLetters_18 : decode cX10_putLetters 18 = .ok (.iload_n 2, 1) := by decide +kernel
theorem dX10_putLetters_19 : decode cX10_putLetters 19 = .ok (.iload_n 1, 1) := by decide +kernel
theorem dX10_putLetters_20 : decode cX10_putLetters 20 = .ok (.iload_n 3, 1) := by decide +kernel
theorem dX10_putLetters_21 : decode cX10_putLetters 21 = .ok (.idiv, 1) := by decide +kernel
theorem dX10_putLetters_22 : decode cX10_putLetters 22 = .ok (.bipush 27, 2) := by decide +kernel
theorem dX10_putLetters_24 : decode cX10_putLetters 24 = .ok (.irem, 1) := by decide +kernel
theorem dX10_putLetters_25 : decode cX10_putLetters 25 = .ok (.iadd, 1) := by decide +kernel
theorem dX10_putLetters_26 : decode cX10_putLetters 26 = .ok (.iconst 1, 1) := by decide +kernel
theorem dX10_putLetters_27 : decode cX10_putLetters 27 = .ok (.isub, 1) := by decide +kernel
theorem dX10_putLetters_28 : decode cX10_putLetters 28 = .ok (.invokevirtual 160, 3) := by decide +kernel
theorem dX10_putLetters_31 : decode cX10_putLetters 31 = .ok (.iload_n 3, 1) := by decide +kernel
theorem dX10_putLetters_32 : decode cX10_putLetters 32 = .ok (.bipush 27, 2) := by decide +kernel
theorem dX10_putLetters_34 : decode cX10_putLetters 34 = .ok (.idiv, 1) := by decide +kernel
theorem dX10_putLetters_35 : decode cX10_putLetters 35 = .ok (.istore_n 3, 1) := by decide +kernel
theorem dX10_putLetters_36 : decode cX10_putLetters 36 = .ok (.goto (-32), 3) := by decide +kernel
theorem dX10_putLetters_39 : decode cX10_putLetters 39 = .ok (.return_, 1) := by decide +kernel
theorem dX10_word_0 : decode cX10_word 0 = .ok (.aload_n 0, 1) := by decide +kernel
theorem dX10_word_1 : decode cX10_word 1 = .ok (.getfield 7, 3) := by decide +kernel
theorem dX10_word_4 : decode cX10_word 4 = .ok (.sipush 1314, 3) := by decide +kernel
theorem dX10_word_7 : decode cX10_word 7 = .ok (.bipush 11, 2) := by decide +kernel
theorem dX10_word_9 : decode cX10_word 9 = .ok (.iload_n 1, 1) := by decide +kernel
theorem dX10_word_10 : decode cX10_word 10 = .ok (.imul, 1) := by decide +kernel
theorem dX10_word_11 : decode cX10_word 11 = .ok (.iadd, 1) := by decide +kernel
theorem dX10_word_12 : decode cX10_word 12 = .ok (.iconst 3, 1) := by decide +kernel
theorem dX10_word_13 : decode cX10_word 13 = .ok (.iadd, 1) := by decide +kernel
theorem dX10_word_14 : decode cX10_word 14 = .ok (.iload_n 2, 1) := by decide +kernel
theorem dX10_word_15 : decode cX10_word 15 = .ok (.iadd, 1) := by decide +kernel
theorem dX10_word_16 : decode cX10_word 16 = .ok (.iaload, 1) := by decide +kernel
theorem dX10_word_17 : decode cX10_word 17 = .ok (.ireturn, 1) := by decide +kernel
theorem dX10_words_0 : decode cX10_words 0 = .ok (.aload_n 0, 1) := by decide +kernel
theorem dX10_words_1 : decode cX10_words 1 = .ok (.getfield 7, 3) := by decide +kernel
theorem dX10_words_4 : decode cX10_words 4 = .ok (.sipush 1314, 3) := by decide +kernel
theorem dX10_words_7 : decode cX10_words 7 = .ok (.bipush 11, 2) := by decide +kernel
theorem dX10_words_9 : decode cX10_words 9 = .ok (.iload_n 1, 1) := by decide +kernel
theorem dX10_words_10 : decode cX10_words 10 = .ok (.imul, 1) := by decide +kernel
theorem dX10_words_11 : decode cX10_words 11 = .ok (.iadd, 1) := by decide +kernel
theorem dX10_words_12 : decode cX10_words 12 = .ok (.iconst 2, 1) := by decide +kernel
theorem dX10_words_13 : decode cX10_words 13 = .ok (.iadd, 1) := by decide +kernel
theorem dX10_words_14 : decode cX10_words 14 = .ok (.iaload, 1) := by decide +kernel
theorem dX10_words_15 : decode cX10_words 15 = .ok (.ireturn, 1) := by decide +kernel
theorem dX10_layLine_0 : decode cX10_layLine 0 = .ok (.aload_n 0, 1) := by decide +kernel
theorem dX10_layLine_1 : decode cX10_layLine 1 = .ok (.iconst 0, 1) := by decide +kernel
theorem dX10_layLine_2 : decode cX10_layLine 2 = .ok (.putfield 157, 3) := by decide +kernel
theorem dX10_layLine_5 : decode cX10_layLine 5 = .ok (.aload_n 0, 1) := by decide +kernel
theorem dX10_layLine_6 : decode cX10_layLine 6 = .ok (.aload_n 0, 1) := by decide +kernel
theorem dX10_layLine_7 : decode cX10_layLine 7 = .ok (.getfield 7, 3) := by decide +kernel
theorem dX10_layLine_10 : decode cX10_layLine 10 = .ok (.sipush 1314, 3) := by decide +kernel
theorem dX10_layLine_13 : decode cX10_layLine 13 = .ok (.bipush 11, 2) := by decide +kernel
theorem dX10_layLine_15 : decode cX10_layLine 15 = .ok (.iload_n 1, 1) := by decide +kernel
theorem dX10_layLine_16 : decode cX10_layLine 16 = .ok (.imul, 1) := by decide +kernel
theorem dX10_layLine_17 : decode cX10_layLine 17 = .ok (.iadd, 1) := by decide +kernel
theorem dX10_layLine_18 : decode cX10_layLine 18 = .ok (.iaload, 1) := by decide +kernel
theorem dX10_layLine_19 : decode cX10_layLine 19 = .ok (.bipush 65, 2) := by decide +kernel
theorem dX10_layLine_21 : decode cX10_layLine 21 = .ok (.invokevirtual 163, 3) := by decide +kernel
theorem dX10_layLine_24 : decode cX10_layLine 24 = .ok (.aload_n 0, 1) := by decide +kernel
theorem dX10_layLine_25 : decode cX10_layLine 25 = .ok (.bipush 62, 2) := by decide +kernel
theorem dX10_layLine_27 : decode cX10_layLine 27 = .ok (.invokevirtual 160, 3) := by decide +kernel
theorem dX10_layLine_30 : decode cX10_layLine 30 = .ok (.iconst 0, 1) := by decide +kernel
theorem dX10_layLine_31 : decode cX10_layLine 31 = .ok (.istore_n 2, 1) := by decide +kernel
theorem dX10_layLine_32 : decode cX10_layLine 32 = .ok (.iload_n 2, 1) := by decide +kernel
theorem dX10_layLine_33 : decode cX10_layLine 33 = .ok (.aload_n 0, 1) := by decide +kernel
theorem dX10_layLine_34 : decode cX10_layLine 34 = .ok (.iload_n 1, 1) := by decide +kernel
theorem dX10_layLine_35 : decode cX10_layLine 35 = .ok (.invokevirtual 166, 3) := by decide +kernel
theorem dX10_layLine_38 : decode cX10_layLine 38 = .ok (.if_icmp .ge 86, 3) := by decide +kernel
theorem dX10_layLine_41 : decode cX10_layLine 41 = .ok (.iload_n 2, 1) := by decide +kernel
theorem dX10_layLine_42 : decode cX10_layLine 42 = .ok (.ifCond .le 9, 3) := by decide +kernel
theorem dX10_layLine_45 : decode cX10_layLine 45 = .ok (.aload_n 0, 1) := by decide +kernel
theorem dX10_layLine_46 : decode cX10_layLine 46 = .ok (.bipush 44, 2) := by decide +kernel
theorem dX10_layLine_48 : decode cX10_layLine 48 = .ok (.invokevirtual 160, 3) := by decide +kernel
theorem dX10_layLine_51 : decode cX10_layLine 51 = .ok (.aload_n 0, 1) := by decide +kernel
theorem dX10_layLine_52 : decode cX10_layLine 52 = .ok (.aload_n 0, 1) := by decide +kernel
theorem dX10_layLine_53 : decode cX10_layLine 53 = .ok (.iload_n 1, 1) := by decide +kernel
theorem dX10_layLine_54 : decode cX10_layLine 54 = .ok (.iload_n 2, 1) := by decide +kernel
theorem dX10_layLine_55 : decode cX10_layLine 55 = .ok (.invokevirtual 169, 3) := by decide +kernel
theorem dX10_layLine_58 : decode cX10_layLine 58 = .ok (.bipush 16, 2) := by decide +kernel
theorem dX10_layLine_60 : decode cX10_layLine 60 = .ok (.idiv, 1) := by decide +kernel
theorem dX10_layLine_61 : decode cX10_layLine 61 = .ok (.bipush 65, 2) := by decide +kernel
theorem dX10_layLine_63 : decode cX10_layLine 63 = .ok (.invokevirtual 163, 3) := by decide +kernel
theorem dX10_layLine_66 : decode cX10_layLine 66 = .ok (.aload_n 0, 1) := by decide +kernel
theorem dX10_layLine_67 : decode cX10_layLine 67 = .ok (.iload_n 1, 1) := by decide +kernel
theorem dX10_layLine_68 : decode cX10_layLine 68 = .ok (.iload_n 2, 1) := by decide +kernel
theorem dX10_layLine_69 : decode cX10_layLine 69 = .ok (.invokevirtual 169, 3) := by decide +kernel
theorem dX10_layLine_72 : decode cX10_layLine 72 = .ok (.invokestatic 144, 3) := by decide +kernel
theorem dX10_layLine_75 : decode cX10_layLine 75 = .ok (.ifCond .le 25, 3) := by decide +kernel
theorem dX10_layLine_78 : decode cX10_layLine 78 = .ok (.aload_n 0, 1) := by decide +kernel
theorem dX10_layLine_79 : decode cX10_layLine 79 = .ok (.bipush 45, 2) := by decide +kernel
theorem dX10_layLine_81 : decode cX10_layLine 81 = .ok (.invokevirtual 160, 3) := by decide +kernel
theorem dX10_layLine_84 : decode cX10_layLine 84 = .ok (.aload_n 0, 1) := by decide +kernel
theorem dX10_layLine_85 : decode cX10_layLine 85 = .ok (.bipush 48, 2) := by decide +kernel
theorem dX10_layLine_87 : decode cX10_layLine 87 = .ok (.aload_n 0, 1) := by decide +kernel
theorem dX10_layLine_88 : decode cX10_layLine 88 = .ok (.iload_n 1, 1) := by decide +kernel
theorem dX10_layLine_89 : decode cX10_layLine 89 = .ok (.iload_n 2, 1) := by decide +kernel
theorem dX10_layLine_90 : decode cX10_layLine 90 = .ok (.invokevirtual 169, 3) := by decide +kernel
theorem dX10_layLine_93 : decode cX10_layLine 93 = .ok (.invokestatic 144, 3) := by decide +kernel
theorem dX10_layLine_96 : decode cX10_layLine 96 = .ok (.iadd, 1) := by decide +kernel
theorem dX10_layLine_97 : decode cX10_layLine 97 = .ok (.invokevirtual 160, 3) := by decide +kernel
theorem dX10_layLine_100 : decode cX10_layLine 100 = .ok (.aload_n 0, 1) := by decide +kernel
theorem dX10_layLine_101 : decode cX10_layLine 101 = .ok (.iload_n 1, 1) := by decide +kernel
theorem dX10_layLine_102 : decode cX10_layLine 102 = .ok (.iload_n 2, 1) := by decide +kernel
theorem dX10_layLine_103 : decode cX10_layLine 103 = .ok (.invokevirtual 169, 3) := by decide +kernel
theorem dX10_layLine_106 : decode cX10_layLine 106 = .ok (.invokestatic 135, 3) := by decide +kernel
theorem dX10_layLine_109 : decode cX10_layLine 109 = .ok (.ifCond .eq 9, 3) := by decide +kernel
theorem dX10_layLine_112 : decode cX10_layLine 112 = .ok (.aload_n 0, 1) := by decide +kernel
theorem dX10_layLine_113 : decode cX10_layLine 113 = .ok (.bipush 42, 2) := by decide +kernel
theorem dX10_layLine_115 : decode cX10_layLine 115 = .ok (.invokevirtual 160, 3) := by decide +kernel
theorem dX10_layLine_118 : decode cX10_layLine 118 = .ok (.iinc 2 1, 3) := by decide +kernel
theorem dX10_layLine_121 : decode cX10_layLine 121 = .ok (.goto (-89), 3) := by decide +kernel
theorem dX10_layLine_124 : decode cX10_layLine 124 = .ok (.aload_n 0, 1) := by decide +kernel
theorem dX10_layLine_125 : decode cX10_layLine 125 = .ok (.bipush 58, 2) := by decide +kernel
theorem dX10_layLine_127 : decode cX10_layLine 127 = .ok (.invokevirtual 160, 3) := by decide +kernel
theorem dX10_layLine_130 : decode cX10_layLine 130 = .ok (.aload_n 0, 1) := by decide +kernel
theorem dX10_layLine_131 : decode cX10_layLine 131 = .ok (.aload_n 0, 1) := by decide +kernel
theorem dX10_layLine_132 : decode cX10_layLine 132 = .ok (.getfield 7, 3) := by decide +kernel
theorem dX10_layLine_135 : decode cX10_layLine 135 = .ok (.sipush 1314, 3) := by decide +kernel
theorem dX10_layLine_138 : decode cX10_layLine 138 = .ok (.bipush 11, 2) := by decide +kernel
theorem dX10_layLine_140 : decode cX10_layLine 140 = .ok (.iload_n 1, 1) := by decide +kernel
theorem dX10_layLine_141 : decode cX10_layLine 141 = .ok (.imul, 1) := by decide +kernel
theorem dX10_layLine_142 : decode cX10_layLine 142 = .ok (.iadd, 1) := by decide +kernel
theorem dX10_layLine_143 : decode cX10_layLine 143 = .ok (.iconst 1, 1) := by decide +kernel
theorem dX10_layLine_144 : decode cX10_layLine 144 = .ok (.iadd, 1) := by decide +kernel
theorem dX10_layLine_145 : decode cX10_layLine 145 = .ok (.iaload, 1) := by decide +kernel
theorem dX10_layLine_146 : decode cX10_layLine 146 = .ok (.bipush 97, 2) := by decide +kernel
theorem dX10_layLine_148 : decode cX10_layLine 148 = .ok (.invokevirtual 163, 3) := by decide +kernel
theorem dX10_layLine_151 : decode cX10_layLine 151 = .ok (.return_, 1) := by decide +kernel
theorem dX10_written_0 : decode cX10_written 0 = .ok (.iload_n 1, 1) := by decide +kernel
theorem dX10_written_1 : decode cX10_written 1 = .ok (.invokestatic 78, 3) := by decide +kernel
theorem dX10_written_4 : decode cX10_written 4 = .ok (.ifCond .ne 5, 3) := by decide +kernel
theorem dX10_written_7 : decode cX10_written 7 = .ok (.iconst (-1), 1) := by decide +kernel
theorem dX10_written_8 : decode cX10_written 8 = .ok (.ireturn, 1) := by decide +kernel
theorem dX10_written_9 : decode cX10_written 9 = .ok (.iload_n 2, 1) := by decide +kernel
theorem dX10_written_10 : decode cX10_written 10 = .ok (.iconst (-1), 1) := by decide +kernel
theorem dX10_written_11 : decode cX10_written 11 = .ok (.if_icmp .ge 6, 3) := by decide +kernel
theorem dX10_written_14 : decode cX10_written 14 = .ok (.bipush (-2), 2) := by decide +kernel
theorem dX10_written_16 : decode cX10_written 16 = .ok (.ireturn, 1) := by decide +kernel
theorem dX10_written_17 : decode cX10_written 17 = .ok (.aload_n 0, 1) := by decide +kernel
theorem dX10_written_18 : decode cX10_written 18 = .ok (.getfield 7, 3) := by decide +kernel
theorem dX10_written_21 : decode cX10_written 21 = .ok (.sipush 1380, 3) := by decide +kernel
theorem dX10_written_24 : decode cX10_written 24 = .ok (.iload_n 1, 1) := by decide +kernel
theorem dX10_written_25 : decode cX10_written 25 = .ok (.iadd, 1) := by decide +kernel
theorem dX10_written_26 : decode cX10_written 26 = .ok (.iaload, 1) := by decide +kernel
theorem dX10_written_27 : decode cX10_written 27 = .ok (.ifCond .ge 6, 3) := by decide +kernel
theorem dX10_written_30 : decode cX10_written 30 = .ok (.bipush (-3), 2) := by decide +kernel
theorem dX10_written_32 : decode cX10_written 32 = .ok (.ireturn, 1) := by decide +kernel
theorem dX10_written_33 : decode cX10_written 33 = .ok (.aload_n 0, 1) := by decide +kernel
theorem dX10_written_34 : decode cX10_written 34 = .ok (.iload_n 1, 1) := by decide +kernel
theorem dX10_written_35 : decode cX10_written 35 = .ok (.invokevirtual 172, 3) := by decide +kernel
theorem dX10_written_38 : decode cX10_written 38 = .ok (.iload_n 2, 1) := by decide +kernel
theorem dX10_written_39 : decode cX10_written 39 = .ok (.iconst (-1), 1) := by decide +kernel
theorem dX10_written_40 : decode cX10_written 40 = .ok (.if_icmp .ne 10, 3) := by decide +kernel
theorem dX10_written_43 : decode cX10_written 43 = .ok (.aload_n 0, 1) := by decide +kernel
theorem dX10_written_44 : decode cX10_written 44 = .ok (.getfield 157, 3) := by decide +kernel
theorem dX10_written_47 : decode cX10_written 47 = .ok (.goto 22, 3) := by decide +kernel
theorem dX10_written_50 : decode cX10_written 50 = .ok (.iload_n 2, 1) := by decide +kernel
theorem dX10_written_51 : decode cX10_written 51 = .ok (.aload_n 0, 1) := by decide +kernel
theorem dX10_written_52 : decode cX10_written 52 = .ok (.getfield 157, 3) := by decide +kernel
theorem dX10_written_55 : decode cX10_written 55 = .ok (.if_icmp .ge 12, 3) := by decide +kernel
theorem dX10_written_58 : decode cX10_written 58 = .ok (.aload_n 0, 1) := by decide +kernel
theorem dX10_written_59 : decode cX10_written 59 = .ok (.getfield 38, 3) := by decide +kernel
theorem dX10_written_62 : decode cX10_written 62 = .ok (.iload_n 2, 1) := by decide +kernel
theorem dX10_written_63 : decode cX10_written 63 = .ok (.iaload, 1) := by decide +kernel
theorem dX10_written_64 : decode cX10_written 64 = .ok (.goto 5, 3) := by decide +kernel
theorem dX10_written_67 : decode cX10_written 67 = .ok (.bipush (-6), 2) := by decide +kernel
theorem dX10_written_69 : decode cX10_written 69 = .ok (.ireturn, 1) := by decide +kernel
theorem dX10_spentWords_0 : decode cX10_spentWords 0 = .ok (.iconst 0, 1) := by decide +kernel
theorem dX10_spentWords_1 : decode cX10_spentWords 1 = .ok (.istore_n 2, 1) := by decide +kernel
theorem dX10_spentWords_2 : decode cX10_spentWords 2 = .ok (.iconst 0, 1) := by decide +kernel
theorem dX10_spentWords_3 : decode cX10_spentWords 3 = .ok (.istore_n 3, 1) := by decide +kernel
theorem dX10_spentWords_4 : decode cX10_spentWords 4 = .ok (.iload_n 3, 1) := by decide +kernel
theorem dX10_spentWords_5 : decode cX10_spentWords 5 = .ok (.aload_n 0, 1) := by decide +kernel
theorem dX10_spentWords_6 : decode cX10_spentWords 6 = .ok (.iload_n 1, 1) := by decide +kernel
theorem dX10_spentWords_7 : decode cX10_spentWords 7 = .ok (.invokevirtual 166, 3) := by decide +kernel
theorem dX10_spentWords_10 : decode cX10_spentWords 10 = .ok (.if_icmp .ge 29, 3) := by decide +kernel
theorem dX10_spentWords_13 : decode cX10_spentWords 13 = .ok (.iload_n 2, 1) := by decide +kernel
theorem dX10_spentWords_14 : decode cX10_spentWords 14 = .ok (.aload_n 0, 1) := by decide +kernel
theorem dX10_spentWords_15 : decode cX10_spentWords 15 = .ok (.iload_n 1, 1) := by decide +kernel
theorem dX10_spentWords_16 : decode cX10_spentWords 16 = .ok (.iload_n 3, 1) := by decide +kernel
theorem dX10_spentWords_17 : decode cX10_spentWords 17 = .ok (.invokevirtual 169, 3) := by decide +kernel
theorem dX10_spentWords_20 : decode cX10_spentWords 20 = .ok (.invokestatic 135, 3) := by decide +kernel
theorem dX10_spentWords_23 : decode cX10_spentWords 23 = .ok (.ifCond .eq 7, 3) := by decide +kernel
theorem dX10_spentWords_26 : decode cX10_spentWords 26 = .ok (.iconst 1, 1) := by decide +kernel
theorem dX10_spentWords_27 : decode cX10_spentWords 27 = .ok (.goto 4, 3) := by decide +kernel
theorem dX10_spentWords_30 : decode cX10_spentWords 30 = .ok (.iconst 0, 1) := by decide +kernel
theorem dX10_spentWords_31 : decode cX10_spentWords 31 = .ok (.iadd, 1) := by decide +kernel
theorem dX10_spentWords_32 : decode cX10_spentWords 32 = .ok (.istore_n 2, 1) := by decide +kernel
theorem dX10_spentWords_33 : decode cX10_spentWords 33 = .ok (.iinc 3 1, 3) := by decide +kernel
theorem dX10_spentWords_36 : decode cX10_spentWords 36 = .ok (.goto (-32), 3) := by decide +kernel
theorem dX10_spentWords_39 : decode cX10_spentWords 39 = .ok (.iload_n 2, 1) := by decide +kernel
theorem dX10_spentWords_40 : decode cX10_spentWords 40 = .ok (.ireturn, 1) := by decide +kernel
theorem dX10_firstHops_0 : decode cX10_firstHops 0 = .ok (.iconst 0, 1) := by decide +kernel
theorem dX10_firstHops_1 : decode cX10_firstHops 1 = .ok (.istore_n 2, 1) := by decide +kernel
theorem dX10_firstHops_2 : decode cX10_firstHops 2 = .ok (.iload_n 2, 1) := by decide +kernel
theorem dX10_firstHops_3 : decode cX10_firstHops 3 = .ok (.aload_n 0, 1) := by decide +kernel
theorem dX10_firstHops_4 : decode cX10_firstHops 4 = .ok (.iload_n 1, 1) := by decide +kernel
theorem dX10_firstHops_5 : decode cX10_firstHops 5 = .ok (.invokevirtual 166, 3) := by decide +kernel
theorem dX10_firstHops_8 : decode cX10_firstHops 8 = .ok (.if_icmp .ge 31, 3) := by decide +kernel
theorem dX10_firstHops_11 : decode cX10_firstHops 11 = .ok (.aload_n 0, 1) := by decide +kernel
theorem dX10_firstHops_12 : decode cX10_firstHops 12 = .ok (.iload_n 1, 1) := by decide +kernel
theorem dX10_firstHops_13 : decode cX10_firstHops 13 = .ok (.iload_n 2, 1) := by decide +kernel
theorem dX10_firstHops_14 : decode cX10_firstHops 14 = .ok (.invokevirtual 169, 3) := by decide +kernel
theorem dX10_firstHops_17 : decode cX10_firstHops 17 = .ok (.invokestatic 135, 3) := by decide +kernel
theorem dX10_firstHops_20 : decode cX10_firstHops 20 = .ok (.ifCond .ne 13, 3) := by decide +kernel
theorem dX10_firstHops_23 : decode cX10_firstHops 23 = .ok (.aload_n 0, 1) := by decide +kernel
theorem dX10_firstHops_24 : decode cX10_firstHops 24 = .ok (.iload_n 1, 1) := by decide +kernel
theorem dX10_firstHops_25 : decode cX10_firstHops 25 = .ok (.iload_n 2, 1) := by decide +kernel
theorem dX10_firstHops_26 : decode cX10_firstHops 26 = .ok (.invokevirtual 169, 3) := by decide +kernel
theorem dX10_firstHops_29 : decode cX10_firstHops 29 = .ok (.invokestatic 144, 3) := by decide +kernel
theorem dX10_firstHops_32 : decode cX10_firstHops 32 = .ok (.ireturn, 1) := by decide +kernel
theorem dX10_firstHops_33 : decode cX10_firstHops 33 = .ok (.iinc 2 1, 3) := by decide +kernel
theorem dX10_firstHops_36 : decode cX10_firstHops 36 = .ok (.goto (-34), 3) := by decide +kernel
theorem dX10_firstHops_39 : decode cX10_firstHops 39 = .ok (.bipush (-6), 2) := by decide +kernel
theorem dX10_firstHops_41 : decode cX10_firstHops 41 = .ok (.ireturn, 1) := by decide +kernel
theorem dX10_last_0 : decode cX10_last 0 = .ok (.iload_n 1, 1) := by decide +kernel
theorem dX10_last_1 : decode cX10_last 1 = .ok (.invokestatic 78, 3) := by decide +kernel
theorem dX10_last_4 : decode cX10_last 4 = .ok (.ifCond .ne 5, 3) := by decide +kernel
theorem dX10_last_7 : decode cX10_last 7 = .ok (.iconst (-1), 1) := by decide +kernel
theorem dX10_last_8 : decode cX10_last 8 = .ok (.ireturn, 1) := by decide +kernel
theorem dX10_last_9 : decode cX10_last 9 = .ok (.iload_n 2, 1) := by decide +kernel
theorem dX10_last_10 : decode cX10_last 10 = .ok (.iconst 0, 1) := by decide +kernel
theorem dX10_last_11 : decode cX10_last 11 = .ok (.iconst 3, 1) := by decide +kernel
theorem dX10_last_12 : decode cX10_last 12 = .ok (.invokestatic 41, 3) := by decide +kernel
theorem dX10_last_15 : decode cX10_last 15 = .ok (.ifCond .ne 6, 3) := by decide +kernel
theorem dX10_last_18 : decode cX10_last 18 = .ok (.bipush (-2), 2) := by decide +kernel
theorem dX10_last_20 : decode cX10_last 20 = .ok (.ireturn, 1) := by decide +kernel
theorem dX10_last_21 : decode cX10_last 21 = .ok (.aload_n 0, 1) := by decide +kernel
theorem dX10_last_22 : decode cX10_last 22 = .ok (.getfield 7, 3) := by decide +kernel
theorem dX10_last_25 : decode cX10_last 25 = .ok (.sipush 1380, 3) := by decide +kernel
theorem dX10_last_28 : decode cX10_last 28 = .ok (.iload_n 1, 1) := by decide +kernel
theorem dX10_last_29 : decode cX10_last 29 = .ok (.iadd, 1) := by decide +kernel
theorem dX10_last_30 : decode cX10_last 30 = .ok (.iaload, 1) := by decide +kernel
theorem dX10_last_31 : decode cX10_last 31 = .ok (.ifCond .ge 6, 3) := by decide +kernel
theorem dX10_last_34 : decode cX10_last 34 = .ok (.bipush (-3), 2) := by decide +kernel
theorem dX10_last_36 : decode cX10_last 36 = .ok (.ireturn, 1) := by decide +kernel
theorem dX10_last_37 : decode cX10_last 37 = .ok (.iload_n 2, 1) := by decide +kernel
theorem dX10_last_38 : decode cX10_last 38 = .ok (.ifCond .ne 11, 3) := by decide +kernel
theorem dX10_last_41 : decode cX10_last 41 = .ok (.aload_n 0, 1) := by decide +kernel
theorem dX10_last_42 : decode cX10_last 42 = .ok (.iload_n 1, 1) := by decide +kernel
theorem dX10_last_43 : decode cX10_last 43 = .ok (.invokevirtual 166, 3) := by decide +kernel
theorem dX10_last_46 : decode cX10_last 46 = .ok (.goto 39, 3) := by decide +kernel
theorem dX10_last_49 : decode cX10_last 49 = .ok (.iload_n 2, 1) := by decide +kernel
theorem dX10_last_50 : decode cX10_last 50 = .ok (.iconst 1, 1) := by decide +kernel
theorem dX10_last_51 : decode cX10_last 51 = .ok (.if_icmp .ne 11, 3) := by decide +kernel
theorem dX10_last_54 : decode cX10_last 54 = .ok (.aload_n 0, 1) := by decide +kernel
theorem dX10_last_55 : decode cX10_last 55 = .ok (.iload_n 1, 1) := by decide +kernel
theorem dX10_last_56 : decode cX10_last 56 = .ok (.invokevirtual 175, 3) := by decide +kernel
theorem dX10_last_59 : decode cX10_last 59 = .ok (.goto 26, 3) := by decide +kernel
theorem dX10_last_62 : decode cX10_last 62 = .ok (.iload_n 2, 1) := by decide +kernel
theorem dX10_last_63 : decode cX10_last 63 = .ok (.iconst 2, 1) := by decide +kernel
theorem dX10_last_64 : decode cX10_last 64 = .ok (.if_icmp .ne 16, 3) := by decide +kernel
theorem dX10_last_67 : decode cX10_last 67 = .ok (.aload_n 0, 1) := by decide +kernel
theorem dX10_last_68 : decode cX10_last 68 = .ok (.getfield 7, 3) := by decide +kernel
theorem dX10_last_71 : decode cX10_last 71 = .ok (.sipush 1380, 3) := by decide +kernel
theorem dX10_last_74 : decode cX10_last 74 = .ok (.iload_n 1, 1) := by decide +kernel
theorem dX10_last_75 : decode cX10_last 75 = .ok (.iadd, 1) := by decide +kernel
theorem dX10_last_76 : decode cX10_last 76 = .ok (.iaload, 1) := by decide +kernel
theorem dX10_last_77 : decode cX10_last 77 = .ok (.goto 8, 3) := by decide +kernel
theorem dX10_last_80 : decode cX10_last 80 = .ok (.aload_n 0, 1) := by decide +kernel
theorem dX10_last_81 : decode cX10_last 81 = .ok (.iload_n 1, 1) := by decide +kernel
theorem dX10_last_82 : decode cX10_last 82 = .ok (.invokevirtual 178, 3) := by decide +kernel
theorem dX10_last_85 : decode cX10_last 85 = .ok (.ireturn, 1) := by decide +kernel
theorem dX10_stationOf_0 : decode cX10_stationOf 0 = .ok (.bipush (-6), 2) := by decide +kernel
theorem dX10_stationOf_2 : decode cX10_stationOf 2 = .ok (.istore_n 2, 1) := by decide +kernel
theorem dX10_stationOf_3 : decode cX10_stationOf 3 = .ok (.iconst 0, 1) := by decide +kernel
theorem dX10_stationOf_4 : decode cX10_stationOf 4 = .ok (.istore_n 3, 1) := by decide +kernel
theorem dX10_stationOf_5 : decode cX10_stationOf 5 = .ok (.iload_n 3, 1) := by decide +kernel
theorem dX10_stationOf_6 : decode cX10_stationOf 6 = .ok (.bipush 6, 2) := by decide +kernel
theorem dX10_stationOf_8 : decode cX10_stationOf 8 = .ok (.if_icmp .ge 27, 3) := by decide +kernel
theorem dX10_stationOf_11 : decode cX10_stationOf 11 = .ok (.aload_n 0, 1) := by decide +kernel
theorem dX10_stationOf_12 : decode cX10_stationOf 12 = .ok (.getfield 7, 3) := by decide +kernel
theorem dX10_stationOf_15 : decode cX10_stationOf 15 = .ok (.iconst 0, 1) := by decide +kernel
theorem dX10_stationOf_16 : decode cX10_stationOf 16 = .ok (.iload_n 3, 1) := by decide +kernel
theorem dX10_stationOf_17 : decode cX10_stationOf 17 = .ok (.iadd, 1) := by decide +kernel
theorem dX10_stationOf_18 : decode cX10_stationOf 18 = .ok (.iaload, 1) := by decide +kernel
theorem dX10_stationOf_19 : decode cX10_stationOf 19 = .ok (.iload_n 1, 1) := by decide +kernel
theorem dX10_stationOf_20 : decode cX10_stationOf 20 = .ok (.if_icmp .ne 7, 3) := by decide +kernel
theorem dX10_stationOf_23 : decode cX10_stationOf 23 = .ok (.iload_n 3, 1) := by decide +kernel
theorem dX10_stationOf_24 : decode cX10_stationOf 24 = .ok (.goto 4, 3) := by decide +kernel
theorem dX10_stationOf_27 : decode cX10_stationOf 27 = .ok (.iload_n 2, 1) := by decide +kernel
theorem dX10_stationOf_28 : decode cX10_stationOf 28 = .ok (.istore_n 2, 1) := by decide +kernel
theorem dX10_stationOf_29 : decode cX10_stationOf 29 = .ok (.iinc 3 1, 3) := by decide +kernel
theorem dX10_stationOf_32 : decode cX10_stationOf 32 = .ok (.goto (-27), 3) := by decide +kernel
theorem dX10_stationOf_35 : decode cX10_stationOf 35 = .ok (.iload_n 2, 1) := by decide +kernel
theorem dX10_stationOf_36 : decode cX10_stationOf 36 = .ok (.ireturn, 1) := by decide +kernel
theorem dX10_trail_0 : decode cX10_trail 0 = .ok (.iload_n 1, 1) := by decide +kernel
theorem dX10_trail_1 : decode cX10_trail 1 = .ok (.invokestatic 78, 3) := by decide +kernel
theorem dX10_trail_4 : decode cX10_trail 4 = .ok (.ifCond .ne 5, 3) := by decide +kernel
theorem dX10_trail_7 : decode cX10_trail 7 = .ok (.iconst (-1), 1) := by decide +kernel
theorem dX10_trail_8 : decode cX10_trail 8 = .ok (.ireturn, 1) := by decide +kernel
theorem dX10_trail_9 : decode cX10_trail 9 = .ok (.aload_n 0, 1) := by decide +kernel
theorem dX10_trail_10 : decode cX10_trail 10 = .ok (.getfield 7, 3) := by decide +kernel
theorem dX10_trail_13 : decode cX10_trail 13 = .ok (.sipush 1380, 3) := by decide +kernel
theorem dX10_trail_16 : decode cX10_trail 16 = .ok (.iload_n 1, 1) := by decide +kernel
theorem dX10_trail_17 : decode cX10_trail 17 = .ok (.iadd, 1) := by decide +kernel
theorem dX10_trail_18 : decode cX10_trail 18 = .ok (.iaload, 1) := by decide +kernel
theorem dX10_trail_19 : decode cX10_trail 19 = .ok (.ifCond .ge 6, 3) := by decide +kernel
theorem dX10_trail_22 : decode cX10_trail 22 = .ok (.bipush (-3), 2) := by decide +kernel
theorem dX10_trail_24 : decode cX10_trail 24 = .ok (.ireturn, 1) := by decide +kernel
theorem dX10_trail_25 : decode cX10_trail 25 = .ok (.iconst 0, 1) := by decide +kernel
theorem dX10_trail_26 : decode cX10_trail 26 = .ok (.istore_n 3, 1) := by decide +kernel
theorem dX10_trail_27 : decode cX10_trail 27 = .ok (.iconst 0, 1) := by decide +kernel
theorem dX10_trail_28 : decode cX10_trail 28 = .ok (.istore 4, 2) := by decide +kernel
theorem dX10_trail_30 : decode cX10_trail 30 = .ok (.iload 4, 2) := by decide +kernel
theorem dX10_trail_32 : decode cX10_trail 32 = .ok (.aload_n 0, 1) := by decide +kernel
theorem dX10_trail_33 : decode cX10_trail 33 = .ok (.iload_n 1, 1) := by decide +kernel
theorem dX10_trail_34 : decode cX10_trail 34 = .ok (.invokevirtual 166, 3) := by decide +kernel
theorem dX10_trail_37 : decode cX10_trail 37 = .ok (.if_icmp .ge 45, 3) := by decide +kernel
theorem dX10_trail_40 : decode cX10_trail 40 = .ok (.aload_n 0, 1) := by decide +kernel
theorem dX10_trail_41 : decode cX10_trail 41 = .ok (.iload_n 1, 1) := by decide +kernel
theorem dX10_trail_42 : decode cX10_trail 42 = .ok (.iload 4, 2) := by decide +kernel
theorem dX10_trail_44 : decode cX10_trail 44 = .ok (.invokevirtual 169, 3) := by decide +kernel
theorem dX10_trail_47 : decode cX10_trail 47 = .ok (.invokestatic 135, 3) := by decide +kernel
theorem dX10_trail_50 : decode cX10_trail 50 = .ok (.ifCond .eq 26, 3) := by decide +kernel
theorem dX10_trail_53 : decode cX10_trail 53 = .ok (.iload_n 3, 1) := by decide +kernel
theorem dX10_trail_54 : decode cX10_trail 54 = .ok (.iload_n 2, 1) := by decide +kernel
theorem dX10_trail_55 : decode cX10_trail 55 = .ok (.if_icmp .ne 18, 3) := by decide +kernel
theorem dX10_trail_58 : decode cX10_trail 58 = .ok (.aload_n 0, 1) := by decide +kernel
theorem dX10_trail_59 : decode cX10_trail 59 = .ok (.aload_n 0, 1) := by decide +kernel
theorem dX10_trail_60 : decode cX10_trail 60 = .ok (.iload_n 1, 1) := by decide +kernel
theorem dX10_trail_61 : decode cX10_trail 61 = .ok (.iload 4, 2) := by decide +kernel
theorem dX10_trail_63 : decode cX10_trail 63 = .ok (.invokevirtual 169, 3) := by decide +kernel
theorem dX10_trail_66 : decode cX10_trail 66 = .ok (.bipush 16, 2) := by decide +kernel
theorem dX10_trail_68 : decode cX10_trail 68 = .ok (.idiv, 1) := by decide +kernel
theorem dX10_trail_69 : decode cX10_trail 69 = .ok (.invokevirtual 181, 3) := by decide +kernel
theorem dX10_trail_72 : decode cX10_trail 72 = .ok (.ireturn, 1) := by decide +kernel
theorem dX10_trail_73 : decode cX10_trail 73 = .ok (.iinc 3 1, 3) := by decide +kernel
theorem dX10_trail_76 : decode cX10_trail 76 = .ok (.iinc 4 1, 3) := by decide +kernel
theorem dX10_trail_79 : decode cX10_trail 79 = .ok (.goto (-49), 3) := by decide +kernel
theorem dX10_trail_82 : decode cX10_trail 82 = .ok (.iload_n 2, 1) := by decide +kernel
theorem dX10_trail_83 : decode cX10_trail 83 = .ok (.iconst (-1), 1) := by decide +kernel
theorem dX10_trail_84 : decode cX10_trail 84 = .ok (.if_icmp .ne 7, 3) := by decide +kernel
theorem dX10_trail_87 : decode cX10_trail 87 = .ok (.iload_n 3, 1) := by decide +kernel
theorem dX10_trail_88 : decode cX10_trail 88 = .ok (.goto 5, 3) := by decide +kernel
theorem dX10_trail_91 : decode cX10_trail 91 = .ok (.bipush (-6), 2) := by decide +kernel
theorem dX10_trail_93 : decode cX10_trail 93 = .ok (.ireturn, 1) := by decide +kernel
theorem dX10_save_0 : decode cX10_save 0 = .ok (.iconst 0, 1) := by decide +kernel
theorem dX10_save_1 : decode cX10_save 1 = .ok (.istore_n 2, 1) := by decide +kernel
theorem dX10_save_2 : decode cX10_save 2 = .ok (.iload_n 2, 1) := by decide +kernel
theorem dX10_save_3 : decode cX10_save 3 = .ok (.sipush 1387, 3) := by decide +kernel
theorem dX10_save_6 : decode cX10_save 6 = .ok (.if_icmp .ge 27, 3) := by decide +kernel
theorem dX10_save_9 : decode cX10_save 9 = .ok (.aload_n 0, 1) := by decide +kernel
theorem dX10_save_10 : decode cX10_save 10 = .ok (.getfield 13, 3) := by decide +kernel
theorem dX10_save_13 : decode cX10_save 13 = .ok (.sipush 1387, 3) := by decide +kernel
theorem dX10_save_16 : decode cX10_save 16 = .ok (.iload_n 1, 1) := by decide +kernel
theorem dX10_save_17 : decode cX10_save 17 = .ok (.imul, 1) := by decide +kernel
theorem dX10_save_18 : decode cX10_save 18 = .ok (.iload_n 2, 1) := by decide +kernel
theorem dX10_save_19 : decode cX10_save 19 = .ok (.iadd, 1) := by decide +kernel
theorem dX10_save_20 : decode cX10_save 20 = .ok (.aload_n 0, 1) := by decide +kernel
theorem dX10_save_21 : decode cX10_save 21 = .ok (.getfield 7, 3) := by decide +kernel
theorem dX10_save_24 : decode cX10_save 24 = .ok (.iload_n 2, 1) := by decide +kernel
theorem dX10_save_25 : decode cX10_save 25 = .ok (.iaload, 1) := by decide +kernel
theorem dX10_save_26 : decode cX10_save 26 = .ok (.iastore, 1) := by decide +kernel
theorem dX10_save_27 : decode cX10_save 27 = .ok (.iinc 2 1, 3) := by decide +kernel
theorem dX10_save_30 : decode cX10_save 30 = .ok (.goto (-28), 3) := by decide +kernel
theorem dX10_save_33 : decode cX10_save 33 = .ok (.return_, 1) := by decide +kernel
theorem dX10_load_0 : decode cX10_load 0 = .ok (.iconst 0, 1) := by decide +kernel
theorem dX10_load_1 : decode cX10_load 1 = .ok (.istore_n 2, 1) := by decide +kernel
theorem dX10_load_2 : decode cX10_load 2 = .ok (.iload_n 2, 1) := by decide +kernel
theorem dX10_load_3 : decode cX10_load 3 = .ok (.sipush 1387, 3) := by decide +kernel
theorem dX10_load_6 : decode cX10_load 6 = .ok (.if_icmp .ge 27, 3) := by decide +kernel
theorem dX10_load_9 : decode cX10_load 9 = .ok (.aload_n 0, 1) := by decide +kernel
theorem dX10_load_10 : decode cX10_load 10 = .ok (.getfield 7, 3) := by decide +kernel
theorem dX10_load_13 : decode cX10_load 13 = .ok (.iload_n 2, 1) := by decide +kernel
theorem dX10_load_14 : decode cX10_load 14 = .ok (.aload_n 0, 1) := by decide +kernel
theorem dX10_load_15 : decode cX10_load 15 = .ok (.getfield 13, 3) := by decide +kernel
theorem dX10_load_18 : decode cX10_load 18 = .ok (.sipush 1387, 3) := by decide +kernel
theorem dX10_load_21 : decode cX10_load 21 = .ok (.iload_n 1, 1) := by decide +kernel
theorem dX10_load_22 : decode cX10_load 22 = .ok (.imul, 1) := by decide +kernel
theorem dX10_load_23 : decode cX10_load 23 = .ok (.iload_n 2, 1) := by decide +kernel
theorem dX10_load_24 : decode cX10_load 24 = .ok (.iadd, 1) := by decide +kernel
theorem dX10_load_25 : decode cX10_load 25 = .ok (.iaload, 1) := by decide +kernel
theorem dX10_load_26 : decode cX10_load 26 = .ok (.iastore, 1) := by decide +kernel
theorem dX10_load_27 : decode cX10_load 27 = .ok (.iinc 2 1, 3) := by decide +kernel
theorem dX10_load_30 : decode cX10_load 30 = .ok (.goto (-28), 3) := by decide +kernel
theorem dX10_load_33 : decode cX10_load 33 = .ok (.return_, 1) := by decide +kernel
theorem dX10_reachFrom_0 : decode cX10_reachFrom 0 = .ok (.aload_n 0, 1) := by decide +kernel
theorem dX10_reachFrom_1 : decode cX10_reachFrom 1 = .ok (.iconst 2, 1) := by decide +kernel
theorem dX10_reachFrom_2 : decode cX10_reachFrom 2 = .ok (.invokevirtual 184, 3) := by decide +kernel
theorem dX10_reachFrom_5 : decode cX10_reachFrom 5 = .ok (.iconst 0, 1) := by decide +kernel
theorem dX10_reachFrom_6 : decode cX10_reachFrom 6 = .ok (.istore 5, 2) := by decide +kernel
theorem dX10_reachFrom_8 : decode cX10_reachFrom 8 = .ok (.iload 5, 2) := by decide +kernel
theorem dX10_reachFrom_10 : decode cX10_reachFrom 10 = .ok (.bipush 54, 2) := by decide +kernel
theorem dX10_reachFrom_12 : decode cX10_reachFrom 12 = .ok (.if_icmp .ge 20, 3) := by decide +kernel
theorem dX10_reachFrom_15 : decode cX10_reachFrom 15 = .ok (.aload_n 0, 1) := by decide +kernel
theorem dX10_reachFrom_16 : decode cX10_reachFrom 16 = .ok (.getfield 7, 3) := by decide +kernel
theorem dX10_reachFrom_19 : decode cX10_reachFrom 19 = .ok (.bipush 96, 2) := by decide +kernel
theorem dX10_reachFrom_21 : decode cX10_reachFrom 21 = .ok (.iload 5, 2) := by decide +kernel
theorem dX10_reachFrom_23 : decode cX10_reachFrom 23 = .ok (.iadd, 1) := by decide +kernel
theorem dX10_reachFrom_24 : decode cX10_reachFrom 24 = .ok (.iconst 0, 1) := by decide +kernel
theorem dX10_reachFrom_25 : decode cX10_reachFrom 25 = .ok (.iastore, 1) := by decide +kernel
theorem dX10_reachFrom_26 : decode cX10_reachFrom 26 = .ok (.iinc 5 1, 3) := by decide +kernel
theorem dX10_reachFrom_29 : decode cX10_reachFrom 29 = .ok (.goto (-21), 3) := by decide +kernel
theorem dX10_reachFrom_32 : decode cX10_reachFrom 32 = .ok (.iconst 0, 1) := by decide +kernel
theorem dX10_reachFrom_33 : decode cX10_reachFrom 33 = .ok (.istore 5, 2) := by decide +kernel
theorem dX10_reachFrom_35 : decode cX10_reachFrom 35 = .ok (.iload 5, 2) := by decide +kernel
theorem dX10_reachFrom_37 : decode cX10_reachFrom 37 = .ok (.bipush 6, 2) := by decide +kernel
theorem dX10_reachFrom_39 : decode cX10_reachFrom 39 = .ok (.if_icmp .ge 81, 3) := by decide +kernel
theorem dX10_reachFrom_42 : decode cX10_reachFrom 42 = .ok (.aload_n 0, 1) := by decide +kernel
theorem dX10_reachFrom_43 : decode cX10_reachFrom 43 = .ok (.getfield 7, 3) := by decide +kernel
theorem dX10_reachFrom_46 : decode cX10_reachFrom 46 = .ok (.sipush 150, 3) := by decide +kernel
theorem dX10_reachFrom_49 : decode cX10_reachFrom 49 = .ok (.iload 5, 2) := by decide +kernel
theorem dX10_reachFrom_51 : decode cX10_reachFrom 51 = .ok (.iadd, 1) := by decide +kernel
theorem dX10_reachFrom_52 : decode cX10_reachFrom 52 = .ok (.iconst 0, 1) := by decide +kernel
theorem dX10_reachFrom_53 : decode cX10_reachFrom 53 = .ok (.iastore, 1) := by decide +kernel
theorem dX10_reachFrom_54 : decode cX10_reachFrom 54 = .ok (.aload_n 0, 1) := by decide +kernel
theorem dX10_reachFrom_55 : decode cX10_reachFrom 55 = .ok (.getfield 7, 3) := by decide +kernel
theorem dX10_reachFrom_58 : decode cX10_reachFrom 58 = .ok (.sipush 1020, 3) := by decide +kernel
theorem dX10_reachFrom_61 : decode cX10_reachFrom 61 = .ok (.iload 5, 2) := by decide +kernel
theorem dX10_reachFrom_63 : decode cX10_reachFrom 63 = .ok (.iadd, 1) := by decide +kernel
theorem dX10_reachFrom_64 : decode cX10_reachFrom 64 = .ok (.iconst 0, 1) := by decide +kernel
theorem dX10_reachFrom_65 : decode cX10_reachFrom 65 = .ok (.iastore, 1) := by decide +kernel
theorem dX10_reachFrom_66 : decode cX10_reachFrom 66 = .ok (.aload_n 0, 1) := by decide +kernel
theorem dX10_reachFrom_67 : decode cX10_reachFrom 67 = .ok (.getfield 35, 3) := by decide +kernel
theorem dX10_reachFrom_70 : decode cX10_reachFrom 70 = .ok (.iload 5, 2) := by decide +kernel
theorem dX10_reachFrom_72 : decode cX10_reachFrom 72 = .ok (.bipush (-6), 2) := by decide +kernel
theorem dX10_reachFrom_74 : decode cX10_reachFrom 74 = .ok (.iastore, 1) := by decide +kernel
theorem dX10_reachFrom_75 : decode cX10_reachFrom 75 = .ok (.iload 4, 2) := by decide +kernel
theorem dX10_reachFrom_77 : decode cX10_reachFrom 77 = .ok (.ifCond .lt 37, 3) := by decide +kernel
theorem dX10_reachFrom_80 : decode cX10_reachFrom 80 = .ok (.aload_n 0, 1) := by decide +kernel
theorem dX10_reachFrom_81 : decode cX10_reachFrom 81 = .ok (.getfield 7, 3) := by decide +kernel
theorem dX10_reachFrom_84 : decode cX10_reachFrom 84 = .ok (.bipush 60, 2) := by decide +kernel
theorem dX10_reachFrom_86 : decode cX10_reachFrom 86 = .ok (.bipush 6, 2) := by decide +kernel
theorem dX10_reachFrom_88 : decode cX10_reachFrom 88 = .ok (.iload 5, 2) := by decide +kernel
theorem dX10_reachFrom_90 : decode cX10_reachFrom 90 = .ok (.imul, 1) := by decide +kernel
theorem dX10_reachFrom_91 : decode cX10_reachFrom 91 = .ok (.iadd, 1) := by decide +kernel
theorem dX10_reachFrom_92 : decode cX10_reachFrom 92 = .ok (.iload 4, 2) := by decide +kernel
theorem dX10_reachFrom_94 : decode cX10_reachFrom 94 = .ok (.iadd, 1) := by decide +kernel
theorem dX10_reachFrom_95 : decode cX10_reachFrom 95 = .ok (.iconst 0, 1) := by decide +kernel
theorem dX10_reachFrom_96 : decode cX10_reachFrom 96 = .ok (.iastore, 1) := by decide +kernel
theorem dX10_reachFrom_97 : decode cX10_reachFrom 97 = .ok (.aload_n 0, 1) := by decide +kernel
theorem dX10_reachFrom_98 : decode cX10_reachFrom 98 = .ok (.getfield 7, 3) := by decide +kernel
theorem dX10_reachFrom_101 : decode cX10_reachFrom 101 = .ok (.bipush 60, 2) := by decide +kernel
theorem dX10_reachFrom_103 : decode cX10_reachFrom 103 = .ok (.bipush 6, 2) := by decide +kernel
theorem dX10_reachFrom_105 : decode cX10_reachFrom 105 = .ok (.iload 4, 2) := by decide +kernel
theorem dX10_reachFrom_107 : decode cX10_reachFrom 107 = .ok (.imul, 1) := by decide +kernel
theorem dX10_reachFrom_108 : decode cX10_reachFrom 108 = .ok (.iadd, 1) := by decide +kernel
theorem dX10_reachFrom_109 : decode cX10_reachFrom 109 = .ok (.iload 5, 2) := by decide +kernel
theorem dX10_reachFrom_111 : decode cX10_reachFrom 111 = .ok (.iadd, 1) := by decide +kernel
theorem dX10_reachFrom_112 : decode cX10_reachFrom 112 = .ok (.iconst 0, 1) := by decide +kernel
theorem dX10_reachFrom_113 : decode cX10_reachFrom 113 = .ok (.iastore, 1) := by decide +kernel
theorem dX10_reachFrom_114 : decode cX10_reachFrom 114 = .ok (.iinc 5 1, 3) := by decide +kernel
theorem dX10_reachFrom_117 : decode cX10_reachFrom 117 = .ok (.goto (-82), 3) := by decide +kernel
theorem dX10_reachFrom_120 : decode cX10_reachFrom 120 = .ok (.aload_n 0, 1) := by decide +kernel
theorem dX10_reachFrom_121 : decode cX10_reachFrom 121 = .ok (.getfield 7, 3) := by decide +kernel
theorem dX10_reachFrom_124 : decode cX10_reachFrom 124 = .ok (.sipush 1386, 3) := by decide +kernel
theorem dX10_reachFrom_127 : decode cX10_reachFrom 127 = .ok (.iconst 0, 1) := by decide +kernel
theorem dX10_reachFrom_128 : decode cX10_reachFrom 128 = .ok (.iastore, 1) := by decide +kernel
theorem dX10_reachFrom_129 : decode cX10_reachFrom 129 = .ok (.aload_n 0, 1) := by decide +kernel
theorem dX10_reachFrom_130 : decode cX10_reachFrom 130 = .ok (.getfield 23, 3) := by decide +kernel
theorem dX10_reachFrom_133 : decode cX10_reachFrom 133 = .ok (.iconst 0, 1) := by decide +kernel
theorem dX10_reachFrom_134 : decode cX10_reachFrom 134 = .ok (.aload_n 0, 1) := by decide +kernel
theorem dX10_reachFrom_135 : decode cX10_reachFrom 135 = .ok (.getfield 7, 3) := by decide +kernel
theorem dX10_reachFrom_138 : decode cX10_reachFrom 138 = .ok (.iconst 0, 1) := by decide +kernel
theorem dX10_reachFrom_139 : decode cX10_reachFrom 139 = .ok (.iload_n 1, 1) := by decide +kernel
theorem dX10_reachFrom_140 : decode cX10_reachFrom 140 = .ok (.iadd, 1) := by decide +kernel
theorem dX10_reachFrom_141 : decode cX10_reachFrom 141 = .ok (.iaload, 1) := by decide +kernel
theorem dX10_reachFrom_142 : decode cX10_reachFrom 142 = .ok (.iastore, 1) := by decide +kernel
theorem dX10_reachFrom_143 : decode cX10_reachFrom 143 = .ok (.aload_n 0, 1) := by decide +kernel
theorem dX10_reachFrom_144 : decode cX10_reachFrom 144 = .ok (.getfield 23, 3) := by decide +kernel
theorem dX10_reachFrom_147 : decode cX10_reachFrom 147 = .ok (.iconst 1, 1) := by decide +kernel
theorem dX10_reachFrom_148 : decode cX10_reachFrom 148 = .ok (.iconst 1, 1) := by decide +kernel
theorem dX10_reachFrom_149 : decode cX10_reachFrom 149 = .ok (.iastore, 1) := by decide +kernel
theorem dX10_reachFrom_150 : decode cX10_reachFrom 150 = .ok (.aload_n 0, 1) := by decide +kernel
theorem dX10_reachFrom_151 : decode cX10_reachFrom 151 = .ok (.getfield 23, 3) := by decide +kernel
theorem dX10_reachFrom_154 : decode cX10_reachFrom 154 = .ok (.iconst 2, 1) := by decide +kernel
theorem dX10_reachFrom_155 : decode cX10_reachFrom 155 = .ok (.iconst 1, 1) := by decide +kernel
theorem dX10_reachFrom_156 : decode cX10_reachFrom 156 = .ok (.iastore, 1) := by decide +kernel
theorem dX10_reachFrom_157 : decode cX10_reachFrom 157 = .ok (.aload_n 0, 1) := by decide +kernel
theorem dX10_reachFrom_158 : decode cX10_reachFrom 158 = .ok (.getfield 23, 3) := by decide +kernel
theorem dX10_reachFrom_161 : decode cX10_reachFrom 161 = .ok (.iconst 3, 1) := by decide +kernel
theorem dX10_reachFrom_162 : decode cX10_reachFrom 162 = .ok (.bipush 16, 2) := by decide +kernel
theorem dX10_reachFrom_164 : decode cX10_reachFrom 164 = .ok (.iload_n 2, 1) := by decide +kernel
theorem dX10_reachFrom_165 : decode cX10_reachFrom 165 = .ok (.imul, 1) := by decide +kernel
theorem dX10_reachFrom_166 : decode cX10_reachFrom 166 = .ok (.iconst 2, 1) := by decide +kernel
theorem dX10_reachFrom_167 : decode cX10_reachFrom 167 = .ok (.iload_n 3, 1) := by decide +kernel
theorem dX10_reachFrom_168 : decode cX10_reachFrom 168 = .ok (.imul, 1) := by decide +kernel
theorem dX10_reachFrom_169 : decode cX10_reachFrom 169 = .ok (.iadd, 1) := by decide +kernel
theorem dX10_reachFrom_170 : decode cX10_reachFrom 170 = .ok (.iastore, 1) := by decide +kernel
theorem dX10_reachFrom_171 : decode cX10_reachFrom 171 = .ok (.aload_n 0, 1) := by decide +kernel
theorem dX10_reachFrom_172 : decode cX10_reachFrom 172 = .ok (.iload_n 1, 1) := by decide +kernel
theorem dX10_reachFrom_173 : decode cX10_reachFrom 173 = .ok (.iconst 0, 1) := by decide +kernel
theorem dX10_reachFrom_174 : decode cX10_reachFrom 174 = .ok (.invokevirtual 113, 3) := by decide +kernel
theorem dX10_reachFrom_177 : decode cX10_reachFrom 177 = .ok (.pop, 1) := by decide +kernel
theorem dX10_reachFrom_178 : decode cX10_reachFrom 178 = .ok (.aload_n 0, 1) := by decide +kernel
theorem dX10_reachFrom_179 : decode cX10_reachFrom 179 = .ok (.iload_n 1, 1) := by decide +kernel
theorem dX10_reachFrom_180 : decode cX10_reachFrom 180 = .ok (.invokevirtual 116, 3) := by decide +kernel
theorem dX10_reachFrom_183 : decode cX10_reachFrom 183 = .ok (.aload_n 0, 1) := by decide +kernel
theorem dX10_reachFrom_184 : decode cX10_reachFrom 184 = .ok (.invokevirtual 154, 3) := by decide +kernel
theorem dX10_reachFrom_187 : decode cX10_reachFrom 187 = .ok (.ifCond .le 10, 3) := by decide +kernel
theorem dX10_reachFrom_190 : decode cX10_reachFrom 190 = .ok (.aload_n 0, 1) := by decide +kernel
theorem dX10_reachFrom_191 : decode cX10_reachFrom 191 = .ok (.invokevirtual 151, 3) := by decide +kernel
theorem dX10_reachFrom_194 : decode cX10_reachFrom 194 = .ok (.goto (-11), 3) := by decide +kernel
theorem dX10_reachFrom_197 : decode cX10_reachFrom 197 = .ok (.iconst 0, 1) := by decide +kernel
theorem dX10_reachFrom_198 : decode cX10_reachFrom 198 = .ok (.istore 5, 2) := by decide +kernel
theorem dX10_reachFrom_200 : decode cX10_reachFrom 200 = .ok (.iconst 0, 1) := by decide +kernel
theorem dX10_reachFrom_201 : decode cX10_reachFrom 201 = .ok (.istore 6, 2) := by decide +kernel
theorem dX10_reachFrom_203 : decode cX10_reachFrom 203 = .ok (.iload 6, 2) := by decide +kernel
theorem dX10_reachFrom_205 : decode cX10_reachFrom 205 = .ok (.bipush 6, 2) := by decide +kernel
theorem dX10_reachFrom_207 : decode cX10_reachFrom 207 = .ok (.if_icmp .ge 32, 3) := by decide +kernel
theorem dX10_reachFrom_210 : decode cX10_reachFrom 210 = .ok (.iload 5, 2) := by decide +kernel
theorem dX10_reachFrom_212 : decode cX10_reachFrom 212 = .ok (.aload_n 0, 1) := by decide +kernel
theorem dX10_reachFrom_213 : decode cX10_reachFrom 213 = .ok (.getfield 35, 3) := by decide +kernel
theorem dX10_reachFrom_216 : decode cX10_reachFrom 216 = .ok (.iload 6, 2) := by decide +kernel
theorem dX10_reachFrom_218 : decode cX10_reachFrom 218 = .ok (.iaload, 1) := by decide +kernel
theorem dX10_reachFrom_219 : decode cX10_reachFrom 219 = .ok (.ifCond .lt 10, 3) := by decide +kernel
theorem dX10_reachFrom_222 : decode cX10_reachFrom 222 = .ok (.iconst 1, 1) := by decide +kernel
theorem dX10_reachFrom_223 : decode cX10_reachFrom 223 = .ok (.iload 6, 2) := by decide +kernel
theorem dX10_reachFrom_225 : decode cX10_reachFrom 225 = .ok (.ishl, 1) := by decide +kernel
theorem dX10_reachFrom_226 : decode cX10_reachFrom 226 = .ok (.goto 4, 3) := by decide +kernel
theorem dX10_reachFrom_229 : decode cX10_reachFrom 229 = .ok (.iconst 0, 1) := by decide +kernel
theorem dX10_reachFrom_230 : decode cX10_reachFrom 230 = .ok (.ior, 1) := by decide +kernel
theorem dX10_reachFrom_231 : decode cX10_reachFrom 231 = .ok (.istore 5, 2) := by decide +kernel
theorem dX10_reachFrom_233 : decode cX10_reachFrom 233 = .ok (.iinc 6 1, 3) := by decide +kernel
theorem dX10_reachFrom_236 : decode cX10_reachFrom 236 = .ok (.goto (-33), 3) := by decide +kernel
theorem dX10_reachFrom_239 : decode cX10_reachFrom 239 = .ok (.aload_n 0, 1) := by decide +kernel
theorem dX10_reachFrom_240 : decode cX10_reachFrom 240 = .ok (.aload_n 0, 1) := by decide +kernel
theorem dX10_reachFrom_241 : decode cX10_reachFrom 241 = .ok (.iconst 0, 1) := by decide +kernel
theorem dX10_reachFrom_242 : decode cX10_reachFrom 242 = .ok (.invokevirtual 187, 3) := by decide +kernel
theorem dX10_reachFrom_245 : decode cX10_reachFrom 245 = .ok (.putfield 190, 3) := by decide +kernel
theorem dX10_reachFrom_248 : decode cX10_reachFrom 248 = .ok (.aload_n 0, 1) := by decide +kernel
theorem dX10_reachFrom_249 : decode cX10_reachFrom 249 = .ok (.aload_n 0, 1) := by decide +kernel
theorem dX10_reachFrom_250 : decode cX10_reachFrom 250 = .ok (.bipush 7, 2) := by decide +kernel
theorem dX10_reachFrom_252 : decode cX10_reachFrom 252 = .ok (.invokevirtual 187, 3) := by decide +kernel
theorem dX10_reachFrom_255 : decode cX10_reachFrom 255 = .ok (.putfield 193, 3) := by decide +kernel
theorem dX10_reachFrom_258 : decode cX10_reachFrom 258 = .ok (.aload_n 0, 1) := by decide +kernel
theorem dX10_reachFrom_259 : decode cX10_reachFrom 259 = .ok (.iconst 2, 1) := by decide +kernel
theorem dX10_reachFrom_260 : decode cX10_reachFrom 260 = .ok (.invokevirtual 196, 3) := by decide +kernel
theorem dX10_reachFrom_263 : decode cX10_reachFrom 263 = .ok (.iload 5, 2) := by decide +kernel
theorem dX10_reachFrom_265 : decode cX10_reachFrom 265 = .ok (.ireturn, 1) := by decide +kernel
theorem dX10_sumOf_0 : decode cX10_sumOf 0 = .ok (.iconst 0, 1) := by decide +kernel
theorem dX10_sumOf_1 : decode cX10_sumOf 1 = .ok (.istore_n 2, 1) := by decide +kernel
theorem dX10_sumOf_2 : decode cX10_sumOf 2 = .ok (.iconst 0, 1) := by decide +kernel
theorem dX10_sumOf_3 : decode cX10_sumOf 3 = .ok (.istore_n 3, 1) := by decide +kernel
theorem dX10_sumOf_4 : decode cX10_sumOf 4 = .ok (.iload_n 3, 1) := by decide +kernel
theorem dX10_sumOf_5 : decode cX10_sumOf 5 = .ok (.bipush 6, 2) := by decide +kernel
theorem dX10_sumOf_7 : decode cX10_sumOf 7 = .ok (.if_icmp .ge 26, 3) := by decide +kernel
theorem dX10_sumOf_10 : decode cX10_sumOf 10 = .ok (.iload_n 2, 1) := by decide +kernel
theorem dX10_sumOf_11 : decode cX10_sumOf 11 = .ok (.aload_n 0, 1) := by decide +kernel
theorem dX10_sumOf_12 : decode cX10_sumOf 12 = .ok (.getfield 7, 3) := by decide +kernel
theorem dX10_sumOf_15 : decode cX10_sumOf 15 = .ok (.bipush 96, 2) := by decide +kernel
theorem dX10_sumOf_17 : decode cX10_sumOf 17 = .ok (.bipush 6, 2) := by decide +kernel
theorem dX10_sumOf_19 : decode cX10_sumOf 19 = .ok (.iload_n 1, 1) := by decide +kernel
theorem dX10_sumOf_20 : decode cX10_sumOf 20 = .ok (.imul, 1) := by decide +kernel
theorem dX10_sumOf_21 : decode cX10_sumOf 21 = .ok (.iadd, 1) := by decide +kernel
theorem dX10_sumOf_22 : decode cX10_sumOf 22 = .ok (.iload_n 3, 1) := by decide +kernel
theorem dX10_sumOf_23 : decode cX10_sumOf 23 = .ok (.iadd, 1) := by decide +kernel
theorem dX10_sumOf_24 : decode cX10_sumOf 24 = .ok (.iaload, 1) := by decide +kernel
theorem dX10_sumOf_25 : decode cX10_sumOf 25 = .ok (.iadd, 1) := by decide +kernel
theorem dX10_sumOf_26 : decode cX10_sumOf 26 = .ok (.istore_n 2, 1) := by decide +kernel
theorem dX10_sumOf_27 : decode cX10_sumOf 27 = .ok (.iinc 3 1, 3) := by decide +kernel
theorem dX10_sumOf_30 : decode cX10_sumOf 30 = .ok (.goto (-26), 3) := by decide +kernel
theorem dX10_sumOf_33 : decode cX10_sumOf 33 = .ok (.iload_n 2, 1) := by decide +kernel
theorem dX10_sumOf_34 : decode cX10_sumOf 34 = .ok (.ireturn, 1) := by decide +kernel
theorem dX10_latest_0 : decode cX10_latest 0 = .ok (.bipush (-6), 2) := by decide +kernel
theorem dX10_latest_2 : decode cX10_latest 2 = .ok (.istore_n 1, 1) := by decide +kernel
theorem dX10_latest_3 : decode cX10_latest 3 = .ok (.iconst 0, 1) := by decide +kernel
theorem dX10_latest_4 : decode cX10_latest 4 = .ok (.istore_n 2, 1) := by decide +kernel
theorem dX10_latest_5 : decode cX10_latest 5 = .ok (.iload_n 2, 1) := by decide +kernel
theorem dX10_latest_6 : decode cX10_latest 6 = .ok (.bipush 6, 2) := by decide +kernel
theorem dX10_latest_8 : decode cX10_latest 8 = .ok (.if_icmp .ge 30, 3) := by decide +kernel
theorem dX10_latest_11 : decode cX10_latest 11 = .ok (.aload_n 0, 1) := by decide +kernel
theorem dX10_latest_12 : decode cX10_latest 12 = .ok (.getfield 35, 3) := by decide +kernel
theorem dX10_latest_15 : decode cX10_latest 15 = .ok (.iload_n 2, 1) := by decide +kernel
theorem dX10_latest_16 : decode cX10_latest 16 = .ok (.iaload, 1) := by decide +kernel
theorem dX10_latest_17 : decode cX10_latest 17 = .ok (.iload_n 1, 1) := by decide +kernel
theorem dX10_latest_18 : decode cX10_latest 18 = .ok (.if_icmp .le 12, 3) := by decide +kernel
theorem dX10_latest_21 : decode cX10_latest 21 = .ok (.aload_n 0, 1) := by decide +kernel
theorem dX10_latest_22 : decode cX10_latest 22 = .ok (.getfield 35, 3) := by decide +kernel
theorem dX10_latest_25 : decode cX10_latest 25 = .ok (.iload_n 2, 1) := by decide +kernel
theorem dX10_latest_26 : decode cX10_latest 26 = .ok (.iaload, 1) := by decide +kernel
theorem dX10_latest_27 : decode cX10_latest 27 = .ok (.goto 4, 3) := by decide +kernel
theorem dX10_latest_30 : decode cX10_latest 30 = .ok (.iload_n 1, 1) := by decide +kernel
theorem dX10_latest_31 : decode cX10_latest 31 = .ok (.istore_n 1, 1) := by decide +kernel
theorem dX10_latest_32 : decode cX10_latest 32 = .ok (.iinc 2 1, 3) := by decide +kernel
theorem dX10_latest_35 : decode cX10_latest 35 = .ok (.goto (-30), 3) := by decide +kernel
theorem dX10_latest_38 : decode cX10_latest 38 = .ok (.iload_n 1, 1) := by decide +kernel
theorem dX10_latest_39 : decode cX10_latest 39 = .ok (.ireturn, 1) := by decide +kernel
theorem dX10_reach_0 : decode cX10_reach 0 = .ok (.iload_n 1, 1) := by decide +kernel
theorem dX10_reach_1 : decode cX10_reach 1 = .ok (.invokestatic 78, 3) := by decide +kernel
theorem dX10_reach_4 : decode cX10_reach 4 = .ok (.ifCond .ne 5, 3) := by decide +kernel
theorem dX10_reach_7 : decode cX10_reach 7 = .ok (.iconst (-1), 1) := by decide +kernel
theorem dX10_reach_8 : decode cX10_reach 8 = .ok (.ireturn, 1) := by decide +kernel
theorem dX10_reach_9 : decode cX10_reach 9 = .ok (.iload_n 2, 1) := by decide +kernel
theorem dX10_reach_10 : decode cX10_reach 10 = .ok (.iconst 1, 1) := by decide +kernel
theorem dX10_reach_11 : decode cX10_reach 11 = .ok (.bipush 7, 2) := by decide +kernel
theorem dX10_reach_13 : decode cX10_reach 13 = .ok (.invokestatic 41, 3) := by decide +kernel
theorem dX10_reach_16 : decode cX10_reach 16 = .ok (.ifCond .eq 12, 3) := by decide +kernel
theorem dX10_reach_19 : decode cX10_reach 19 = .ok (.iload_n 3, 1) := by decide +kernel
theorem dX10_reach_20 : decode cX10_reach 20 = .ok (.iconst 0, 1) := by decide +kernel
theorem dX10_reach_21 : decode cX10_reach 21 = .ok (.iconst 3, 1) := by decide +kernel
theorem dX10_reach_22 : decode cX10_reach 22 = .ok (.invokestatic 41, 3) := by decide +kernel
theorem dX10_reach_25 : decode cX10_reach 25 = .ok (.ifCond .ne 6, 3) := by decide +kernel
theorem dX10_reach_28 : decode cX10_reach 28 = .ok (.bipush (-2), 2) := by decide +kernel
theorem dX10_reach_30 : decode cX10_reach 30 = .ok (.ireturn, 1) := by decide +kernel
theorem dX10_reach_31 : decode cX10_reach 31 = .ok (.aload_n 0, 1) := by decide +kernel
theorem dX10_reach_32 : decode cX10_reach 32 = .ok (.invokevirtual 81, 3) := by decide +kernel
theorem dX10_reach_35 : decode cX10_reach 35 = .ok (.istore 4, 2) := by decide +kernel
theorem dX10_reach_37 : decode cX10_reach 37 = .ok (.iload 4, 2) := by decide +kernel
theorem dX10_reach_39 : decode cX10_reach 39 = .ok (.ifCond .ge 6, 3) := by decide +kernel
theorem dX10_reach_42 : decode cX10_reach 42 = .ok (.bipush (-7), 2) := by decide +kernel
theorem dX10_reach_44 : decode cX10_reach 44 = .ok (.ireturn, 1) := by decide +kernel
theorem dX10_reach_45 : decode cX10_reach 45 = .ok (.aload_n 0, 1) := by decide +kernel
theorem dX10_reach_46 : decode cX10_reach 46 = .ok (.iload_n 1, 1) := by decide +kernel
theorem dX10_reach_47 : decode cX10_reach 47 = .ok (.iload 4, 2) := by decide +kernel
theorem dX10_reach_49 : decode cX10_reach 49 = .ok (.iload_n 2, 1) := by decide +kernel
theorem dX10_reach_50 : decode cX10_reach 50 = .ok (.bipush (-6), 2) := by decide +kernel
theorem dX10_reach_52 : decode cX10_reach 52 = .ok (.invokevirtual 199, 3) := by decide +kernel
theorem dX10_reach_55 : decode cX10_reach 55 = .ok (.istore 5, 2) := by decide +kernel
theorem dX10_reach_57 : decode cX10_reach 57 = .ok (.iload_n 3, 1) := by decide +kernel
theorem dX10_reach_58 : decode cX10_reach 58 = .ok (.ifCond .ne 8, 3) := by decide +kernel
theorem dX10_reach_61 : decode cX10_reach 61 = .ok (.iload 5, 2) := by decide +kernel
theorem dX10_reach_63 : decode cX10_reach 63 = .ok (.goto 31, 3) := by decide +kernel
theorem dX10_reach_66 : decode cX10_reach 66 = .ok (.iload_n 3, 1) := by decide +kernel
theorem dX10_reach_67 : decode cX10_reach 67 = .ok (.iconst 1, 1) := by decide +kernel
theorem dX10_reach_68 : decode cX10_reach 68 = .ok (.if_icmp .ne 10, 3) := by decide +kernel
theorem dX10_reach_71 : decode cX10_reach 71 = .ok (.aload_n 0, 1) := by decide +kernel
theorem dX10_reach_72 : decode cX10_reach 72 = .ok (.invokevirtual 202, 3) := by decide +kernel
theorem dX10_reach_75 : decode cX10_reach 75 = .ok (.goto 19, 3) := by decide +kernel
theorem dX10_reach_78 : decode cX10_reach 78 = .ok (.iload_n 3, 1) := by decide +kernel
theorem dX10_reach_79 : decode cX10_reach 79 = .ok (.iconst 2, 1) := by decide +kernel
theorem dX10_reach_80 : decode cX10_reach 80 = .ok (.if_icmp .ne 10, 3) := by decide +kernel
theorem dX10_reach_83 : decode cX10_reach 83 = .ok (.aload_n 0, 1) := by decide +kernel
theorem dX10_reach_84 : decode cX10_reach 84 = .ok (.getfield 190, 3) := by decide +kernel
theorem dX10_reach_87 : decode cX10_reach 87 = .ok (.goto 7, 3) := by decide +kernel
theorem dX10_reach_90 : decode cX10_reach 90 = .ok (.aload_n 0, 1) := by decide +kernel
theorem dX10_reach_91 : decode cX10_reach 91 = .ok (.getfield 193, 3) := by decide +kernel
theorem dX10_reach_94 : decode cX10_reach 94 = .ok (.ireturn, 1) := by decide +kernel
theorem dX10_fewest_0 : decode cX10_fewest 0 = .ok (.iload_n 1, 1) := by decide +kernel
theorem dX10_fewest_1 : decode cX10_fewest 1 = .ok (.invokestatic 78, 3) := by decide +kernel
theorem dX10_fewest_4 : decode cX10_fewest 4 = .ok (.ifCond .eq 10, 3) := by decide +kernel
theorem dX10_fewest_7 : decode cX10_fewest 7 = .ok (.iload_n 2, 1) := by decide +kernel
theorem dX10_fewest_8 : decode cX10_fewest 8 = .ok (.invokestatic 78, 3) := by decide +kernel
theorem dX10_fewest_11 : decode cX10_fewest 11 = .ok (.ifCond .ne 5, 3) := by decide +kernel
theorem dX10_fewest_14 : decode cX10_fewest 14 = .ok (.iconst (-1), 1) := by decide +kernel
theorem dX10_fewest_15 : decode cX10_fewest 15 = .ok (.ireturn, 1) := by decide +kernel
theorem dX10_fewest_16 : decode cX10_fewest 16 = .ok (.iload_n 1, 1) := by decide +kernel
theorem dX10_fewest_17 : decode cX10_fewest 17 = .ok (.iload_n 2, 1) := by decide +kernel
theorem dX10_fewest_18 : decode cX10_fewest 18 = .ok (.if_icmp .ne 6, 3) := by decide +kernel
theorem dX10_fewest_21 : decode cX10_fewest 21 = .ok (.bipush (-2), 2) := by decide +kernel
theorem dX10_fewest_23 : decode cX10_fewest 23 = .ok (.ireturn, 1) := by decide +kernel
theorem dX10_fewest_24 : decode cX10_fewest 24 = .ok (.aload_n 0, 1) := by decide +kernel
theorem dX10_fewest_25 : decode cX10_fewest 25 = .ok (.invokevirtual 81, 3) := by decide +kernel
theorem dX10_fewest_28 : decode cX10_fewest 28 = .ok (.istore_n 3, 1) := by decide +kernel
theorem dX10_fewest_29 : decode cX10_fewest 29 = .ok (.iload_n 3, 1) := by decide +kernel
theorem dX10_fewest_30 : decode cX10_fewest 30 = .ok (.ifCond .ge 6, 3) := by decide +kernel
theorem dX10_fewest_33 : decode cX10_fewest 33 = .ok (.bipush (-7), 2) := by decide +kernel
theorem dX10_fewest_35 : decode cX10_fewest 35 = .ok (.ireturn, 1) := by decide +kernel
theorem dX10_fewest_36 : decode cX10_fewest 36 = .ok (.iconst 1, 1) := by decide +kernel
theorem dX10_fewest_37 : decode cX10_fewest 37 = .ok (.istore 4, 2) := by decide +kernel
theorem dX10_fewest_39 : decode cX10_fewest 39 = .ok (.iload 4, 2) := by decide +kernel
theorem dX10_fewest_41 : decode cX10_fewest 41 = .ok (.bipush 7, 2) := by decide +kernel
theorem dX10_fewest_43 : decode cX10_fewest 43 = .ok (.if_icmp .gt 30, 3) := by decide +kernel
theorem dX10_fewest_46 : decode cX10_fewest 46 = .ok (.aload_n 0, 1) := by decide +kernel
theorem dX10_fewest_47 : decode cX10_fewest 47 = .ok (.iload_n 1, 1) := by decide +kernel
theorem dX10_fewest_48 : decode cX10_fewest 48 = .ok (.iload_n 3, 1) := by decide +kernel
theorem dX10_fewest_49 : decode cX10_fewest 49 = .ok (.iload 4, 2) := by decide +kernel
theorem dX10_fewest_51 : decode cX10_fewest 51 = .ok (.bipush (-6), 2) := by decide +kernel
theorem dX10_fewest_53 : decode cX10_fewest 53 = .ok (.invokevirtual 199, 3) := by decide +kernel
theorem dX10_fewest_56 : decode cX10_fewest 56 = .ok (.iload_n 2, 1) := by decide +kernel
theorem dX10_fewest_57 : decode cX10_fewest 57 = .ok (.ishr, 1) := by decide +kernel
theorem dX10_fewest_58 : decode cX10_fewest 58 = .ok (.iconst 1, 1) := by decide +kernel
theorem dX10_fewest_59 : decode cX10_fewest 59 = .ok (.iand, 1) := by decide +kernel
theorem dX10_fewest_60 : decode cX10_fewest 60 = .ok (.iconst 1, 1) := by decide +kernel
theorem dX10_fewest_61 : decode cX10_fewest 61 = .ok (.if_icmp .ne 6, 3) := by decide +kernel
theorem dX10_fewest_64 : decode cX10_fewest 64 = .ok (.iload 4, 2) := by decide +kernel
theorem dX10_fewest_66 : decode cX10_fewest 66 = .ok (.ireturn, 1) := by decide +kernel
theorem dX10_fewest_67 : decode cX10_fewest 67 = .ok (.iinc 4 1, 3) := by decide +kernel
theorem dX10_fewest_70 : decode cX10_fewest 70 = .ok (.goto (-31), 3) := by decide +kernel
theorem dX10_fewest_73 : decode cX10_fewest 73 = .ok (.bipush (-6), 2) := by decide +kernel
theorem dX10_fewest_75 : decode cX10_fewest 75 = .ok (.ireturn, 1) := by decide +kernel
theorem dX10_bridges_0 : decode cX10_bridges 0 = .ok (.iload_n 1, 1) := by decide +kernel
theorem dX10_bridges_1 : decode cX10_bridges 1 = .ok (.invokestatic 78, 3) := by decide +kernel
theorem dX10_bridges_4 : decode cX10_bridges 4 = .ok (.ifCond .eq 10, 3) := by decide +kernel
theorem dX10_bridges_7 : decode cX10_bridges 7 = .ok (.iload_n 2, 1) := by decide +kernel
theorem dX10_bridges_8 : decode cX10_bridges 8 = .ok (.invokestatic 78, 3) := by decide +kernel
theorem dX10_bridges_11 : decode cX10_bridges 11 = .ok (.ifCond .ne 5, 3) := by decide +kernel
theorem dX10_bridges_14 : decode cX10_bridges 14 = .ok (.iconst (-1), 1) := by decide +kernel
theorem dX10_bridges_15 : decode cX10_bridges 15 = .ok (.ireturn, 1) := by decide +kernel
theorem dX10_bridges_16 : decode cX10_bridges 16 = .ok (.iload_n 1, 1) := by decide +kernel
theorem dX10_bridges_17 : decode cX10_bridges 17 = .ok (.iload_n 2, 1) := by decide +kernel
theorem dX10_bridges_18 : decode cX10_bridges 18 = .ok (.if_icmp .eq 13, 3) := by decide +kernel
theorem dX10_bridges_21 : decode cX10_bridges 21 = .ok (.iload_n 3, 1) := by decide +kernel
theorem dX10_bridges_22 : decode cX10_bridges 22 = .ok (.iconst 1, 1) := by decide +kernel
theorem dX10_bridges_23 : decode cX10_bridges 23 = .ok (.bipush 7, 2) := by decide +kernel
theorem dX10_bridges_25 : decode cX10_bridges 25 = .ok (.invokestatic 41, 3) := by decide +kernel
theorem dX10_bridges_28 : decode cX10_bridges 28 = .ok (.ifCond .ne 6, 3) := by decide +kernel
theorem dX10_bridges_31 : decode cX10_bridges 31 = .ok (.bipush (-2), 2) := by decide +kernel
theorem dX10_bridges_33 : decode cX10_bridges 33 = .ok (.ireturn, 1) := by decide +kernel
theorem dX10_bridges_34 : decode cX10_bridges 34 = .ok (.aload_n 0, 1) := by decide +kernel
theorem dX10_bridges_35 : decode cX10_bridges 35 = .ok (.invokevirtual 81, 3) := by decide +kernel
theorem dX10_bridges_38 : decode cX10_bridges 38 = .ok (.istore 4, 2) := by decide +kernel
theorem dX10_bridges_40 : decode cX10_bridges 40 = .ok (.iload 4, 2) := by decide +kernel
theorem dX10_bridges_42 : decode cX10_bridges 42 = .ok (.ifCond .ge 6, 3) := by decide +kernel
theorem dX10_bridges_45 : decode cX10_bridges 45 = .ok (.bipush (-7), 2) := by decide +kernel
theorem dX10_bridges_47 : decode cX10_bridges 47 = .ok (.ireturn, 1) := by decide +kernel
theorem dX10_bridges_48 : decode cX10_bridges 48 = .ok (.aload_n 0, 1) := by decide +kernel
theorem dX10_bridges_49 : decode cX10_bridges 49 = .ok (.iload_n 1, 1) := by decide +kernel
theorem dX10_bridges_50 : decode cX10_bridges 50 = .ok (.iload 4, 2) := by decide +kernel
theorem dX10_bridges_52 : decode cX10_bridges 52 = .ok (.iload_n 3, 1) := by decide +kernel
theorem dX10_bridges_53 : decode cX10_bridges 53 = .ok (.bipush (-6), 2) := by decide +kernel
theorem dX10_bridges_55 : decode cX10_bridges 55 = .ok (.invokevirtual 199, 3) := by decide +kernel
theorem dX10_bridges_58 : decode cX10_bridges 58 = .ok (.iload_n 2, 1) := by decide +kernel
theorem dX10_bridges_59 : decode cX10_bridges 59 = .ok (.ishr, 1) := by decide +kernel
theorem dX10_bridges_60 : decode cX10_bridges 60 = .ok (.iconst 1, 1) := by decide +kernel
theorem dX10_bridges_61 : decode cX10_bridges 61 = .ok (.iand, 1) := by decide +kernel
theorem dX10_bridges_62 : decode cX10_bridges 62 = .ok (.ifCond .ne 6, 3) := by decide +kernel
theorem dX10_bridges_65 : decode cX10_bridges 65 = .ok (.bipush (-6), 2) := by decide +kernel
theorem dX10_bridges_67 : decode cX10_bridges 67 = .ok (.ireturn, 1) := by decide +kernel
theorem dX10_bridges_68 : decode cX10_bridges 68 = .ok (.iconst 0, 1) := by decide +kernel
theorem dX10_bridges_69 : decode cX10_bridges 69 = .ok (.istore 5, 2) := by decide +kernel
theorem dX10_bridges_71 : decode cX10_bridges 71 = .ok (.iconst 0, 1) := by decide +kernel
theorem dX10_bridges_72 : decode cX10_bridges 72 = .ok (.istore 6, 2) := by decide +kernel
theorem dX10_bridges_74 : decode cX10_bridges 74 = .ok (.iload 6, 2) := by decide +kernel
theorem dX10_bridges_76 : decode cX10_bridges 76 = .ok (.bipush 6, 2) := by decide +kernel
theorem dX10_bridges_78 : decode cX10_bridges 78 = .ok (.if_icmp .ge 51, 3) := by decide +kernel
theorem dX10_bridges_81 : decode cX10_bridges 81 = .ok (.iload 6, 2) := by decide +kernel
theorem dX10_bridges_83 : decode cX10_bridges 83 = .ok (.iload_n 1, 1) := by decide +kernel
theorem dX10_bridges_84 : decode cX10_bridges 84 = .ok (.if_icmp .eq 39, 3) := by decide +kernel
theorem dX10_bridges_87 : decode cX10_bridges 87 = .ok (.iload 6, 2) := by decide +kernel
theorem dX10_bridges_89 : decode cX10_bridges 89 = .ok (.iload_n 2, 1) := by decide +kernel
theorem dX10_bridges_90 : decode cX10_bridges 90 = .ok (.if_icmp .eq 33, 3) := by decide +kernel
theorem dX10_bridges_93 : decode cX10_bridges 93 = .ok (.iload 5, 2) := by decide +kernel
theorem dX10_bridges_95 : decode cX10_bridges 95 = .ok (.aload_n 0, 1) := by decide +kernel
theorem dX10_bridges_96 : decode cX10_bridges 96 = .ok (.iload_n 1, 1) := by decide +kernel
theorem dX10_bridges_97 : decode cX10_bridges 97 = .ok (.iload 4, 2) := by decide +kernel
theorem dX10_bridges_99 : decode cX10_bridges 99 = .ok (.iload_n 3, 1) := by decide +kernel
theorem dX10_bridges_100 : decode cX10_bridges 100 = .ok (.iload 6, 2) := by decide +kernel
theorem dX10_bridges_102 : decode cX10_bridges 102 = .ok (.invokevirtual 199, 3) := by decide +kernel
theorem dX10_bridges_105 : decode cX10_bridges 105 = .ok (.iload_n 2, 1) := by decide +kernel
theorem dX10_bridges_106 : decode cX10_bridges 106 = .ok (.ishr, 1) := by decide +kernel
theorem dX10_bridges_107 : decode cX10_bridges 107 = .ok (.iconst 1, 1) := by decide +kernel
theorem dX10_bridges_108 : decode cX10_bridges 108 = .ok (.iand, 1) := by decide +kernel
theorem dX10_bridges_109 : decode cX10_bridges 109 = .ok (.ifCond .ne 10, 3) := by decide +kernel
theorem dX10_bridges_112 : decode cX10_bridges 112 = .ok (.iconst 1, 1) := by decide +kernel
theorem dX10_bridges_113 : decode cX10_bridges 113 = .ok (.iload 6, 2) := by decide +kernel
theorem dX10_bridges_115 : decode cX10_bridges 115 = .ok (.ishl, 1) := by decide +kernel
theorem dX10_bridges_116 : decode cX10_bridges 116 = .ok (.goto 4, 3) := by decide +kernel
theorem dX10_bridges_119 : decode cX10_bridges 119 = .ok (.iconst 0, 1) := by decide +kernel
theorem dX10_bridges_120 : decode cX10_bridges 120 = .ok (.ior, 1) := by decide +kernel
theorem dX10_bridges_121 : decode cX10_bridges 121 = .ok (.istore 5, 2) := by decide +kernel
theorem dX10_bridges_123 : decode cX10_bridges 123 = .ok (.iinc 6 1, 3) := by decide +kernel
theorem dX10_bridges_126 : decode cX10_bridges 126 = .ok (.goto (-52), 3) := by decide +kernel
theorem dX10_bridges_129 : decode cX10_bridges 129 = .ok (.iload 5, 2) := by decide +kernel
theorem dX10_bridges_131 : decode cX10_bridges 131 = .ok (.ireturn, 1) := by decide +kernel
theorem dX10_image_0 : decode cX10_image 0 = .ok (.iload_n 1, 1) := by decide +kernel
theorem dX10_image_1 : decode cX10_image 1 = .ok (.iconst 0, 1) := by decide +kernel
theorem dX10_image_2 : decode cX10_image 2 = .ok (.iconst 1, 1) := by decide +kernel
theorem dX10_image_3 : decode cX10_image 3 = .ok (.invokestatic 41, 3) := by decide +kernel
theorem dX10_image_6 : decode cX10_image 6 = .ok (.ifCond .ne 6, 3) := by decide +kernel
theorem dX10_image_9 : decode cX10_image 9 = .ok (.bipush (-2), 2) := by decide +kernel
theorem dX10_image_11 : decode cX10_image 11 = .ok (.ireturn, 1) := by decide +kernel
theorem dX10_image_12 : decode cX10_image 12 = .ok (.aload_n 0, 1) := by decide +kernel
theorem dX10_image_13 : decode cX10_image 13 = .ok (.iload_n 1, 1) := by decide +kernel
theorem dX10_image_14 : decode cX10_image 14 = .ok (.invokevirtual 184, 3) := by decide +kernel
theorem dX10_image_17 : decode cX10_image 17 = .ok (.aload_n 0, 1) := by decide +kernel
theorem dX10_image_18 : decode cX10_image 18 = .ok (.getfield 16, 3) := by decide +kernel
theorem dX10_image_21 : decode cX10_image 21 = .ok (.iload_n 1, 1) := by decide +kernel
theorem dX10_image_22 : decode cX10_image 22 = .ok (.iconst 1, 1) := by decide +kernel
theorem dX10_image_23 : decode cX10_image 23 = .ok (.bastore, 1) := by decide +kernel
theorem dX10_image_24 : decode cX10_image 24 = .ok (.iconst 1, 1) := by decide +kernel
theorem dX10_image_25 : decode cX10_image 25 = .ok (.ireturn, 1) := by decide +kernel
theorem dX10_restore_0 : decode cX10_restore 0 = .ok (.iload_n 1, 1) := by decide +kernel
theorem dX10_restore_1 : decode cX10_restore 1 = .ok (.iconst 0, 1) := by decide +kernel
theorem dX10_restore_2 : decode cX10_restore 2 = .ok (.iconst 1, 1) := by decide +kernel
theorem dX10_restore_3 : decode cX10_restore 3 = .ok (.invokestatic 41, 3) := by decide +kernel
theorem dX10_restore_6 : decode cX10_restore 6 = .ok (.ifCond .ne 6, 3) := by decide +kernel
theorem dX10_restore_9 : decode cX10_restore 9 = .ok (.bipush (-2), 2) := by decide +kernel
theorem dX10_restore_11 : decode cX10_restore 11 = .ok (.ireturn, 1) := by decide +kernel
theorem dX10_restore_12 : decode cX10_restore 12 = .ok (.aload_n 0, 1) := by decide +kernel
theorem dX10_restore_13 : decode cX10_restore 13 = .ok (.getfield 16, 3) := by decide +kernel
theorem dX10_restore_16 : decode cX10_restore 16 = .ok (.iload_n 1, 1) := by decide +kernel
theorem dX10_restore_17 : decode cX10_restore 17 = .ok (.baload, 1) := by decide +kernel
theorem dX10_restore_18 : decode cX10_restore 18 = .ok (.ifCond .ne 6, 3) := by decide +kernel
theorem dX10_restore_21 : decode cX10_restore 21 = .ok (.bipush (-3), 2) := by decide +kernel
theorem dX10_restore_23 : decode cX10_restore 23 = .ok (.ireturn, 1) := by decide +kernel
theorem dX10_restore_24 : decode cX10_restore 24 = .ok (.aload_n 0, 1) := by decide +kernel
theorem dX10_restore_25 : decode cX10_restore 25 = .ok (.iload_n 1, 1) := by decide +kernel
theorem dX10_restore_26 : decode cX10_restore 26 = .ok (.invokevirtual 196, 3) := by decide +kernel
theorem dX10_restore_29 : decode cX10_restore 29 = .ok (.iconst 1, 1) := by decide +kernel
theorem dX10_restore_30 : decode cX10_restore 30 = .ok (.ireturn, 1) := by decide +kernel
theorem dX10_pairs_0 : decode cX10_pairs 0 = .ok (.iconst 0, 1) := by decide +kernel
theorem dX10_pairs_1 : decode cX10_pairs 1 = .ok (.istore_n 1, 1) := by decide +kernel
theorem dX10_pairs_2 : decode cX10_pairs 2 = .ok (.iconst 0, 1) := by decide +kernel
theorem dX10_pairs_3 : decode cX10_pairs 3 = .ok (.istore_n 2, 1) := by decide +kernel
theorem dX10_pairs_4 : decode cX10_pairs 4 = .ok (.iload_n 2, 1) := by decide +kernel
theorem dX10_pairs_5 : decode cX10_pairs 5 = .ok (.bipush 36, 2) := by decide +kernel
theorem dX10_pairs_7 : decode cX10_pairs 7 = .ok (.if_icmp .ge 21, 3) := by decide +kernel
theorem dX10_pairs_10 : decode cX10_pairs 10 = .ok (.iload_n 1, 1) := by decide +kernel
theorem dX10_pairs_11 : decode cX10_pairs 11 = .ok (.aload_n 0, 1) := by decide +kernel
theorem dX10_pairs_12 : decode cX10_pairs 12 = .ok (.getfield 7, 3) := by decide +kernel
theorem dX10_pairs_15 : decode cX10_pairs 15 = .ok (.bipush 60, 2) := by decide +kernel
theorem dX10_pairs_17 : decode cX10_pairs 17 = .ok (.iload_n 2, 1) := by decide +kernel
theorem dX10_pairs_18 : decode cX10_pairs 18 = .ok (.iadd, 1) := by decide +kernel
theorem dX10_pairs_19 : decode cX10_pairs 19 = .ok (.iaload, 1) := by decide +kernel
theorem dX10_pairs_20 : decode cX10_pairs 20 = .ok (.iadd, 1) := by decide +kernel
theorem dX10_pairs_21 : decode cX10_pairs 21 = .ok (.istore_n 1, 1) := by decide +kernel
theorem dX10_pairs_22 : decode cX10_pairs 22 = .ok (.iinc 2 1, 3) := by decide +kernel
theorem dX10_pairs_25 : decode cX10_pairs 25 = .ok (.goto (-21), 3) := by decide +kernel
theorem dX10_pairs_28 : decode cX10_pairs 28 = .ok (.iload_n 1, 1) := by decide +kernel
theorem dX10_pairs_29 : decode cX10_pairs 29 = .ok (.iconst 2, 1) := by decide +kernel
theorem dX10_pairs_30 : decode cX10_pairs 30 = .ok (.idiv, 1) := by decide +kernel
theorem dX10_pairs_31 : decode cX10_pairs 31 = .ok (.ireturn, 1) := by decide +kernel
theorem dX10_count__0 : decode cX10_count_ 0 = .ok (.iload_n 1, 1) := by decide +kernel
theorem dX10_count__1 : decode cX10_count_ 1 = .ok (.tableswitch 110 0 6 #[43, 52, 57, 62, 68, 75, 80], 43) := by decide +kernel
theorem dX10_count__44 : decode cX10_count_ 44 = .ok (.aload_n 0, 1) := by decide +kernel
theorem dX10_count__45 : decode cX10_count_ 45 = .ok (.getfield 7, 3) := by decide +kernel
theorem dX10_count__48 : decode cX10_count_ 48 = .ok (.sipush 1386, 3) := by decide +kernel
theorem dX10_count__51 : decode cX10_count_ 51 = .ok (.iaload, 1) := by decide +kernel
theorem dX10_count__52 : decode cX10_count_ 52 = .ok (.ireturn, 1) := by decide +kernel
theorem dX10_count__53 : decode cX10_count_ 53 = .ok (.aload_n 0, 1) := by decide +kernel
theorem dX10_count__54 : decode cX10_count_ 54 = .ok (.getfield 45, 3) := by decide +kernel
theorem dX10_count__57 : decode cX10_count_ 57 = .ok (.ireturn, 1) := by decide +kernel
theorem dX10_count__58 : decode cX10_count_ 58 = .ok (.aload_n 0, 1) := by decide +kernel
theorem dX10_count__59 : decode cX10_count_ 59 = .ok (.invokevirtual 154, 3) := by decide +kernel
theorem dX10_count__62 : decode cX10_count_ 62 = .ok (.ireturn, 1) := by decide +kernel
theorem dX10_count__63 : decode cX10_count_ 63 = .ok (.aload_n 0, 1) := by decide +kernel
theorem dX10_count__64 : decode cX10_count_ 64 = .ok (.iconst 0, 1) := by decide +kernel
theorem dX10_count__65 : decode cX10_count_ 65 = .ok (.invokevirtual 187, 3) := by decide +kernel
theorem dX10_count__68 : decode cX10_count_ 68 = .ok (.ireturn, 1) := by decide +kernel
theorem dX10_count__69 : decode cX10_count_ 69 = .ok (.aload_n 0, 1) := by decide +kernel
theorem dX10_count__70 : decode cX10_count_ 70 = .ok (.bipush 7, 2) := by decide +kernel
theorem dX10_count__72 : decode cX10_count_ 72 = .ok (.invokevirtual 187, 3) := by decide +kernel
theorem dX10_count__75 : decode cX10_count_ 75 = .ok (.ireturn, 1) := by decide +kernel
theorem dX10_count__76 : decode cX10_count_ 76 = .ok (.aload_n 0, 1) := by decide +kernel
theorem dX10_count__77 : decode cX10_count_ 77 = .ok (.invokevirtual 205, 3) := by decide +kernel
theorem dX10_count__80 : decode cX10_count_ 80 = .ok (.ireturn, 1) := by decide +kernel
theorem dX10_count__81 : decode cX10_count_ 81 = .ok (.aload_n 0, 1) := by decide +kernel
theorem dX10_count__82 : decode cX10_count_ 82 = .ok (.getfield 16, 3) := by decide +kernel
theorem dX10_count__85 : decode cX10_count_ 85 = .ok (.iconst 0, 1) := by decide +kernel
theorem dX10_count__86 : decode cX10_count_ 86 = .ok (.baload, 1) := by decide +kernel
theorem dX10_count__87 : decode cX10_count_ 87 = .ok (.ifCond .eq 7, 3) := by decide +kernel
theorem dX10_count__90 : decode cX10_count_ 90 = .ok (.iconst 1, 1) := by decide +kernel
theorem dX10_count__91 : decode cX10_count_ 91 = .ok (.goto 4, 3) := by decide +kernel
theorem dX10_count__94 : decode cX10_count_ 94 = .ok (.iconst 0, 1) := by decide +kernel
theorem dX10_count__95 : decode cX10_count_ 95 = .ok (.aload_n 0, 1) := by decide +kernel
theorem dX10_count__96 : decode cX10_count_ 96 = .ok (.getfield 16, 3) := by decide +kernel
theorem dX10_count__99 : decode cX10_count_ 99 = .ok (.iconst 1, 1) := by decide +kernel
theorem dX10_count__100 : decode cX10_count_ 100 = .ok (.baload, 1) := by decide +kernel
theorem dX10_count__101 : decode cX10_count_ 101 = .ok (.ifCond .eq 7, 3) := by decide +kernel
theorem dX10_count__104 : decode cX10_count_ 104 = .ok (.iconst 2, 1) := by decide +kernel
theorem dX10_count__105 : decode cX10_count_ 105 = .ok (.goto 4, 3) := by decide +kernel
theorem dX10_count__108 : decode cX10_count_ 108 = .ok (.iconst 0, 1) := by decide +kernel
theorem dX10_count__109 : decode cX10_count_ 109 = .ok (.iadd, 1) := by decide +kernel
theorem dX10_count__110 : decode cX10_count_ 110 = .ok (.ireturn, 1) := by decide +kernel
theorem dX10_count__111 : decode cX10_count_ 111 = .ok (.bipush (-2), 2) := by decide +kernel
theorem dX10_count__113 : decode cX10_count_ 113 = .ok (.ireturn, 1) := by decide +kernel
theorem dJ6_bitCount_0f7a4_0 : decode cJ6_bitCount_0f7a4 0 = .ok (.iload_n 0, 1) := by decide +kernel
theorem dJ6_bitCount_0f7a4_1 : decode cJ6_bitCount_0f7a4 1 = .ok (.iload_n 0, 1) := by decide +kernel
theorem dJ6_bitCount_0f7a4_2 : decode cJ6_bitCount_0f7a4 2 = .ok (.iconst 1, 1) := by decide +kernel
theorem dJ6_bitCount_0f7a4_3 : decode cJ6_bitCount_0f7a4 3 = .ok (.iushr, 1) := by decide +kernel
theorem dJ6_bitCount_0f7a4_4 : decode cJ6_bitCount_0f7a4 4 = .ok (.ldc_w 265, 3) := by decide +kernel
theorem dJ6_bitCount_0f7a4_7 : decode cJ6_bitCount_0f7a4 7 = .ok (.iand, 1) := by decide +kernel
theorem dJ6_bitCount_0f7a4_8 : decode cJ6_bitCount_0f7a4 8 = .ok (.isub, 1) := by decide +kernel
theorem dJ6_bitCount_0f7a4_9 : decode cJ6_bitCount_0f7a4 9 = .ok (.istore_n 0, 1) := by decide +kernel
theorem dJ6_bitCount_0f7a4_10 : decode cJ6_bitCount_0f7a4 10 = .ok (.iload_n 0, 1) := by decide +kernel
theorem dJ6_bitCount_0f7a4_11 : decode cJ6_bitCount_0f7a4 11 = .ok (.ldc_w 266, 3) := by decide +kernel
theorem dJ6_bitCount_0f7a4_14 : decode cJ6_bitCount_0f7a4 14 = .ok (.iand, 1) := by decide +kernel
theorem dJ6_bitCount_0f7a4_15 : decode cJ6_bitCount_0f7a4 15 = .ok (.iload_n 0, 1) := by decide +kernel
theorem dJ6_bitCount_0f7a4_16 : decode cJ6_bitCount_0f7a4 16 = .ok (.iconst 2, 1) := by decide +kernel
theorem dJ6_bitCount_0f7a4_17 : decode cJ6_bitCount_0f7a4 17 = .ok (.iushr, 1) := by decide +kernel
theorem dJ6_bitCount_0f7a4_18 : decode cJ6_bitCount_0f7a4 18 = .ok (.ldc_w 266, 3) := by decide +kernel
theorem dJ6_bitCount_0f7a4_21 : decode cJ6_bitCount_0f7a4 21 = .ok (.iand, 1) := by decide +kernel
theorem dJ6_bitCount_0f7a4_22 : decode cJ6_bitCount_0f7a4 22 = .ok (.iadd, 1) := by decide +kernel
theorem dJ6_bitCount_0f7a4_23 : decode cJ6_bitCount_0f7a4 23 = .ok (.istore_n 0, 1) := by decide +kernel
theorem dJ6_bitCount_0f7a4_24 : decode cJ6_bitCount_0f7a4 24 = .ok (.iload_n 0, 1) := by decide +kernel
theorem dJ6_bitCount_0f7a4_25 : decode cJ6_bitCount_0f7a4 25 = .ok (.iload_n 0, 1) := by decide +kernel
theorem dJ6_bitCount_0f7a4_26 : decode cJ6_bitCount_0f7a4 26 = .ok (.iconst 4, 1) := by decide +kernel
theorem dJ6_bitCount_0f7a4_27 : decode cJ6_bitCount_0f7a4 27 = .ok (.iushr, 1) := by decide +kernel
theorem dJ6_bitCount_0f7a4_28 : decode cJ6_bitCount_0f7a4 28 = .ok (.iadd, 1) := by decide +kernel
theorem dJ6_bitCount_0f7a4_29 : decode cJ6_bitCount_0f7a4 29 = .ok (.ldc_w 267, 3) := by decide +kernel
theorem dJ6_bitCount_0f7a4_32 : decode cJ6_bitCount_0f7a4 32 = .ok (.iand, 1) := by decide +kernel
theorem dJ6_bitCount_0f7a4_33 : decode cJ6_bitCount_0f7a4 33 = .ok (.istore_n 0, 1) := by decide +kernel
theorem dJ6_bitCount_0f7a4_34 : decode cJ6_bitCount_0f7a4 34 = .ok (.iload_n 0, 1) := by decide +kernel
theorem dJ6_bitCount_0f7a4_35 : decode cJ6_bitCount_0f7a4 35 = .ok (.iload_n 0, 1) := by decide +kernel
theorem dJ6_bitCount_0f7a4_36 : decode cJ6_bitCount_0f7a4 36 = .ok (.bipush 8, 2) := by decide +kernel
theorem dJ6_bitCount_0f7a4_38 : decode cJ6_bitCount_0f7a4 38 = .ok (.iushr, 1) := by decide +kernel
theorem dJ6_bitCount_0f7a4_39 : decode cJ6_bitCount_0f7a4 39 = .ok (.iadd, 1) := by decide +kernel
theorem dJ6_bitCount_0f7a4_40 : decode cJ6_bitCount_0f7a4 40 = .ok (.istore_n 0, 1) := by decide +kernel
theorem dJ6_bitCount_0f7a4_41 : decode cJ6_bitCount_0f7a4 41 = .ok (.iload_n 0, 1) := by decide +kernel
theorem dJ6_bitCount_0f7a4_42 : decode cJ6_bitCount_0f7a4 42 = .ok (.iload_n 0, 1) := by decide +kernel
theorem dJ6_bitCount_0f7a4_43 : decode cJ6_bitCount_0f7a4 43 = .ok (.bipush 16, 2) := by decide +kernel
theorem dJ6_bitCount_0f7a4_45 : decode cJ6_bitCount_0f7a4 45 = .ok (.iushr, 1) := by decide +kernel
theorem dJ6_bitCount_0f7a4_46 : decode cJ6_bitCount_0f7a4 46 = .ok (.iadd, 1) := by decide +kernel
theorem dJ6_bitCount_0f7a4_47 : decode cJ6_bitCount_0f7a4 47 = .ok (.istore_n 0, 1) := by decide +kernel
theorem dJ6_bitCount_0f7a4_48 : decode cJ6_bitCount_0f7a4 48 = .ok (.iload_n 0, 1) := by decide +kernel
theorem dJ6_bitCount_0f7a4_49 : decode cJ6_bitCount_0f7a4 49 = .ok (.bipush 63, 2) := by decide +kernel
theorem dJ6_bitCount_0f7a4_51 : decode cJ6_bitCount_0f7a4 51 = .ok (.iand, 1) := by decide +kernel
theorem dJ6_bitCount_0f7a4_52 : decode cJ6_bitCount_0f7a4 52 = .ok (.ireturn, 1) := by decide +kernel
theorem dJ9_min_7cf53_0 : decode cJ9_min_7cf53 0 = .ok (.iload_n 0, 1) := by decide +kernel
theorem dJ9_min_7cf53_1 : decode cJ9_min_7cf53 1 = .ok (.iload_n 1, 1) := by decide +kernel
theorem dJ9_min_7cf53_2 : decode cJ9_min_7cf53 2 = .ok (.if_icmp .gt 7, 3) := by decide +kernel
theorem dJ9_min_7cf53_5 : decode cJ9_min_7cf53 5 = .ok (.iload_n 0, 1) := by decide +kernel
theorem dJ9_min_7cf53_6 : decode cJ9_min_7cf53 6 = .ok (.goto 4, 3) := by decide +kernel
theorem dJ9_min_7cf53_9 : decode cJ9_min_7cf53 9 = .ok (.iload_n 1, 1) := by decide +kernel
theorem dJ9_min_7cf53_10 : decode cJ9_min_7cf53 10 = .ok (.ireturn, 1) := by decide +kernel
theorem dL_law_0 : decode cL_law 0 = .ok (.new 7, 3) := by decide +kernel
theorem dL_law_3 : decode cL_law 3 = .ok (.dup, 1) := by decide +kernel
theorem dL_law_4 : decode cL_law 4 = .ok (.invokespecial 9, 3) := by decide +kernel
theorem dL_law_7 : decode cL_law 7 = .ok (.astore_n 1, 1) := by decide +kernel
theorem dL_law_8 : decode cL_law 8 = .ok (.new 10, 3) := by decide +kernel
theorem dL_law_11 : decode cL_law 11 = .ok (.dup, 1) := by decide +kernel
theorem dL_law_12 : decode cL_law 12 = .ok (.invokespecial 12, 3) := by decide +kernel
theorem dL_law_15 : decode cL_law 15 = .ok (.astore_n 2, 1) := by decide +kernel
theorem dL_law_16 : decode cL_law 16 = .ok (.iconst 0, 1) := by decide +kernel
theorem dL_law_17 : decode cL_law 17 = .ok (.istore_n 3, 1) := by decide +kernel
theorem dL_law_18 : decode cL_law 18 = .ok (.iload_n 3, 1) := by decide +kernel
theorem dL_law_19 : decode cL_law 19 = .ok (.aload_n 0, 1) := by decide +kernel
theorem dL_law_20 : decode cL_law 20 = .ok (.arraylength, 1) := by decide +kernel
theorem dL_law_21 : decode cL_law 21 = .ok (.iconst 4, 1) := by decide +kernel
theorem dL_law_22 : decode cL_law 22 = .ok (.isub, 1) := by decide +kernel
theorem dL_law_23 : decode cL_law 23 = .ok (.if_icmp .gt 674, 3) := by decide +kernel
theorem dL_law_26 : decode cL_law 26 = .ok (.aload_n 0, 1) := by decide +kernel
theorem dL_law_27 : decode cL_law 27 = .ok (.iload_n 3, 1) := by decide +kernel
theorem dL_law_28 : decode cL_law 28 = .ok (.iaload, 1) := by decide +kernel
theorem dL_law_29 : decode cL_law 29 = .ok (.bipush 31, 2) := by decide +kernel
theorem dL_law_31 : decode cL_law 31 = .ok (.iand, 1) := by decide +kernel
theorem dL_law_32 : decode cL_law 32 = .ok (.tableswitch 659 0 18 #[92, 115, 128, 141, 174, 207, 250, 293, 316, 339, 372, 405, 438, 471, 514, 547, 590, 613, 636], 92) := by decide +kernel
theorem dL_law_124 : decode cL_law 124 = .ok (.aload_n 1, 1) := by decide +kernel
theorem dL_law_125 : decode cL_law 125 = .ok (.aload_n 0, 1) := by decide +kernel
theorem dL_law_126 : decode cL_law 126 = .ok (.iload_n 3, 1) := by decide +kernel
theorem dL_law_127 : decode cL_law 127 = .ok (.iconst 1, 1) := by decide +kernel
theorem dL_law_128 : decode cL_law 128 = .ok (.iadd, 1) := by decide +kernel
theorem dL_law_129 : decode cL_law 129 = .ok (.iaload, 1) := by decide +kernel
theorem dL_law_130 : decode cL_law 130 = .ok (.invokevirtual 13, 3) := by decide +kernel
theorem dL_law_133 : decode cL_law 133 = .ok (.aload_n 2, 1) := by decide +kernel
theorem dL_law_134 : decode cL_law 134 = .ok (.aload_n 0, 1) := by decide +kernel
theorem dL_law_135 : decode cL_law 135 = .ok (.iload_n 3, 1) := by decide +kernel
theorem dL_law_136 : decode cL_law 136 = .ok (.iconst 1, 1) := by decide +kernel
theorem dL_law_137 : decode cL_law 137 = .ok (.iadd, 1) := by decide +kernel
theorem dL_law_138 : decode cL_law 138 = .ok (.iaload, 1) := by decide +kernel
theorem dL_law_139 : decode cL_law 139 = .ok (.invokevirtual 17, 3) := by decide +kernel
theorem dL_law_142 : decode cL_law 142 = .ok (.if_icmp .eq 549, 3) := by decide +kernel
theorem dL_law_145 : decode cL_law 145 = .ok (.iconst 0, 1) := by decide +kernel
theorem dL_law_146 : decode cL_law 146 = .ok (.ireturn, 1) := by decide +kernel
theorem dL_law_147 : decode cL_law 147 = .ok (.aload_n 1, 1) := by decide +kernel
theorem dL_law_148 : decode cL_law 148 = .ok (.invokevirtual 18, 3) := by decide +kernel
theorem dL_law_151 : decode cL_law 151 = .ok (.aload_n 2, 1) := by decide +kernel
theorem dL_law_152 : decode cL_law 152 = .ok (.invokevirtual 22, 3) := by decide +kernel
theorem dL_law_155 : decode cL_law 155 = .ok (.if_icmp .eq 536, 3) := by decide +kernel
theorem dL_law_158 : decode cL_law 158 = .ok (.iconst 0, 1) := by decide +kernel
theorem dL_law_159 : decode cL_law 159 = .ok (.ireturn, 1) := by decide +kernel
theorem dL_law_160 : decode cL_law 160 = .ok (.aload_n 1, 1) := by decide +kernel
theorem dL_law_161 : decode cL_law 161 = .ok (.invokevirtual 23, 3) := by decide +kernel
theorem dL_law_164 : decode cL_law 164 = .ok (.aload_n 2, 1) := by decide +kernel
theorem dL_law_165 : decode cL_law 165 = .ok (.invokevirtual 26, 3) := by decide +kernel
theorem dL_law_168 : decode cL_law 168 = .ok (.if_icmp .eq 523, 3) := by decide +kernel
theorem dL_law_171 : decode cL_law 171 = .ok (.iconst 0, 1) := by decide +kernel
theorem dL_law_172 : decode cL_law 172 = .ok (.ireturn, 1) := by decide +kernel
theorem dL_law_173 : decode cL_law 173 = .ok (.aload_n 1, 1) := by decide +kernel
theorem dL_law_174 : decode cL_law 174 = .ok (.aload_n 0, 1) := by decide +kernel
theorem dL_law_175 : decode cL_law 175 = .ok (.iload_n 3, 1) := by decide +kernel
theorem dL_law_176 : decode cL_law 176 = .ok (.iconst 1, 1) := by decide +kernel
theorem dL_law_177 : decode cL_law 177 = .ok (.iadd, 1) := by decide +kernel
theorem dL_law_178 : decode cL_law 178 = .ok (.iaload, 1) := by decide +kernel
theorem dL_law_179 : decode cL_law 179 = .ok (.aload_n 0, 1) := by decide +kernel
theorem dL_law_180 : decode cL_law 180 = .ok (.iload_n 3, 1) := by decide +kernel
theorem dL_law_181 : decode cL_law 181 = .ok (.iconst 2, 1) := by decide +kernel
theorem dL_law_182 : decode cL_law 182 = .ok (.iadd, 1) := by decide +kernel
theorem dL_law_183 : decode cL_law 183 = .ok (.iaload, 1) := by decide +kernel
theorem dL_law_184 : decode cL_law 184 = .ok (.invokevirtual 27, 3) := by decide +kernel
theorem dL_law_187 : decode cL_law 187 = .ok (.aload_n 2, 1) := by decide +kernel
theorem dL_law_188 : decode cL_law 188 = .ok (.aload_n 0, 1) := by decide +kernel
theorem dL_law_189 : decode cL_law 189 = .ok (.iload_n 3, 1) := by decide +kernel
theorem dL_law_190 : decode cL_law 190 = .ok (.iconst 1, 1) := by decide +kernel
theorem dL_law_191 : decode cL_law 191 = .ok (.iadd, 1) := by decide +kernel
theorem dL_law_192 : decode cL_law 192 = .ok (.iaload, 1) := by decide +kernel
theorem dL_law_193 : decode cL_law 193 = .ok (.aload_n 0, 1) := by decide +kernel
theorem dL_law_194 : decode cL_law 194 = .ok (.iload_n 3, 1) := by decide +kernel
theorem dL_law_195 : decode cL_law 195 = .ok (.iconst 2, 1) := by decide +kernel
theorem dL_law_196 : decode cL_law 196 = .ok (.iadd, 1) := by decide +kernel
theorem dL_law_197 : decode cL_law 197 = .ok (.iaload, 1) := by decide +kernel
theorem dL_law_198 : decode cL_law 198 = .ok (.invokevirtual 31, 3) := by decide +kernel
theorem dL_law_201 : decode cL_law 201 = .ok (.if_icmp .eq 490, 3) := by decide +kernel
theorem dL_law_204 : decode cL_law 204 = .ok (.iconst 0, 1) := by decide +kernel
theorem dL_law_205 : decode cL_law 205 = .ok (.ireturn, 1) := by decide +kernel
theorem dL_law_206 : decode cL_law 206 = .ok (.aload_n 1, 1) := by decide +kernel
theorem dL_law_207 : decode cL_law 207 = .ok (.aload_n 0, 1) := by decide +kernel
theorem dL_law_208 : decode cL_law 208 = .ok (.iload_n 3, 1) := by decide +kernel
theorem dL_law_209 : decode cL_law 209 = .ok (.iconst 1, 1) := by decide +kernel
theorem dL_law_210 : decode cL_law 210 = .ok (.iadd, 1) := by decide +kernel
theorem dL_law_211 : decode cL_law 211 = .ok (.iaload, 1) := by decide +kernel
theorem dL_law_212 : decode cL_law 212 = .ok (.aload_n 0, 1) := by decide +kernel
theorem dL_law_213 : decode cL_law 213 = .ok (.iload_n 3, 1) := by decide +kernel
theorem dL_law_214 : decode cL_law 214 = .ok (.iconst 2, 1) := by decide +kernel
theorem dL_law_215 : decode cL_law 215 = .ok (.iadd, 1) := by decide +kernel
theorem dL_law_216 : decode cL_law 216 = .ok (.iaload, 1) := by decide +kernel
theorem dL_law_217 : decode cL_law 217 = .ok (.invokevirtual 32, 3) := by decide +kernel
theorem dL_law_220 : decode cL_law 220 = .ok (.aload_n 2, 1) := by decide +kernel
theorem dL_law_221 : decode cL_law 221 = .ok (.aload_n 0, 1) := by decide +kernel
theorem dL_law_222 : decode cL_law 222 = .ok (.iload_n 3, 1) := by decide +kernel
theorem dL_law_223 : decode cL_law 223 = .ok (.iconst 1, 1) := by decide +kernel
theorem dL_law_224 : decode cL_law 224 = .ok (.iadd, 1) := by decide +kernel
theorem dL_law_225 : decode cL_law 225 = .ok (.iaload, 1) := by decide +kernel
theorem dL_law_226 : decode cL_law 226 = .ok (.aload_n 0, 1) := by decide +kernel
theorem dL_law_227 : decode cL_law 227 = .ok (.iload_n 3, 1) := by decide +kernel
theorem dL_law_228 : decode cL_law 228 = .ok (.iconst 2, 1) := by decide +kernel
theorem dL_law_229 : decode cL_law 229 = .ok (.iadd, 1) := by decide +kernel
theorem dL_law_230 : decode cL_law 230 = .ok (.iaload, 1) := by decide +kernel
theorem dL_law_231 : decode cL_law 231 = .ok (.invokevirtual 35, 3) := by decide +kernel
theorem dL_law_234 : decode cL_law 234 = .ok (.if_icmp .eq 457, 3) := by decide +kernel
theorem dL_law_237 : decode cL_law 237 = .ok (.iconst 0, 1) := by decide +kernel
theorem dL_law_238 : decode cL_law 238 = .ok (.ireturn, 1) := by decide +kernel
theorem dL_law_239 : decode cL_law 239 = .ok (.aload_n 1, 1) := by decide +kernel
theorem dL_law_240 : decode cL_law 240 = .ok (.aload_n 0, 1) := by decide +kernel
theorem dL_law_241 : decode cL_law 241 = .ok (.iload_n 3, 1) := by decide +kernel
theorem dL_law_242 : decode cL_law 242 = .ok (.iconst 1, 1) := by decide +kernel
theorem dL_law_243 : decode cL_law 243 = .ok (.iadd, 1) := by decide +kernel
theorem dL_law_244 : decode cL_law 244 = .ok (.iaload, 1) := by decide +kernel
theorem dL_law_245 : decode cL_law 245 = .ok (.aload_n 0, 1) := by decide +kernel
theorem dL_law_246 : decode cL_law 246 = .ok (.iload_n 3, 1) := by decide +kernel
theorem dL_law_247 : decode cL_law 247 = .ok (.iconst 2, 1) := by decide +kernel
theorem dL_law_248 : decode cL_law 248 = .ok (.iadd, 1) := by decide +kernel
theorem dL_law_249 : decode cL_law 249 = .ok (.iaload, 1) := by decide +kernel
theorem dL_law_250 : decode cL_law 250 = .ok (.aload_n 0, 1) := by decide +kernel
theorem dL_law_251 : decode cL_law 251 = .ok (.iload_n 3, 1) := by decide +kernel
theorem dL_law_252 : decode cL_law 252 = .ok (.iconst 3, 1) := by decide +kernel
theorem dL_law_253 : decode cL_law 253 = .ok (.iadd, 1) := by decide +kernel
theorem dL_law_254 : decode cL_law 254 = .ok (.iaload, 1) := by decide +kernel
theorem dL_law_255 : decode cL_law 255 = .ok (.invokevirtual 36, 3) := by decide +kernel
theorem dL_law_258 : decode cL_law 258 = .ok (.aload_n 2, 1) := by decide +kernel
theorem dL_law_259 : decode cL_law 259 = .ok (.aload_n 0, 1) := by decide +kernel
theorem dL_law_260 : decode cL_law 260 = .ok (.iload_n 3, 1) := by decide +kernel
theorem dL_law_261 : decode cL_law 261 = .ok (.iconst 1, 1) := by decide +kernel
theorem dL_law_262 : decode cL_law 262 = .ok (.iadd, 1) := by decide +kernel
theorem dL_law_263 : decode cL_law 263 = .ok (.iaload, 1) := by decide +kernel
theorem dL_law_264 : decode cL_law 264 = .ok (.aload_n 0, 1) := by decide +kernel
theorem dL_law_265 : decode cL_law 265 = .ok (.iload_n 3, 1) := by decide +kernel
theorem dL_law_266 : decode cL_law 266 = .ok (.iconst 2, 1) := by decide +kernel
theorem dL_law_267 : decode cL_law 267 = .ok (.iadd, 1) := by decide +kernel
theorem dL_law_268 : decode cL_law 268 = .ok (.iaload, 1) := by decide +kernel
theorem dL_law_269 : decode cL_law 269 = .ok (.aload_n 0, 1) := by decide +kernel
theorem dL_law_270 : decode cL_law 270 = .ok (.iload_n 3, 1) := by decide +kernel
theorem dL_law_271 : decode cL_law 271 = .ok (.iconst 3, 1) := by decide +kernel
theorem dL_law_272 : decode cL_law 272 = .ok (.iadd, 1) := by decide +kernel
theorem dL_law_273 : decode cL_law 273 = .ok (.iaload, 1) := by decide +kernel
theorem dL_law_274 : decode cL_law 274 = .ok (.invokevirtual 40, 3) := by decide +kernel
theorem dL_law_277 : decode cL_law 277 = .ok (.if_icmp .eq 414, 3) := by decide +kernel
theorem dL_law_280 : decode cL_law 280 = .ok (.iconst 0, 1) := by decide +kernel
theorem dL_law_281 : decode cL_law 281 = .ok (.ireturn, 1) := by decide +kernel
theorem dL_law_282 : decode cL_law 282 = .ok (.aload_n 1, 1) := by decide +kernel
theorem dL_law_283 : decode cL_law 283 = .ok (.aload_n 0, 1) := by decide +kernel
theorem dL_law_284 : decode cL_law 284 = .ok (.iload_n 3, 1) := by decide +kernel
theorem dL_law_285 : decode cL_law 285 = .ok (.iconst 1, 1) := by decide +kernel
theorem dL_law_286 : decode cL_law 286 = .ok (.iadd, 1) := by decide +kernel
theorem dL_law_287 : decode cL_law 287 = .ok (.iaload, 1) := by decide +kernel
theorem dL_law_288 : decode cL_law 288 = .ok (.aload_n 0, 1) := by decide +kernel
theorem dL_law_289 : decode cL_law 289 = .ok (.iload_n 3, 1) := by decide +kernel
theorem dL_law_290 : decode cL_law 290 = .ok (.iconst 2, 1) := by decide +kernel
theorem dL_law_291 : decode cL_law 291 = .ok (.iadd, 1) := by decide +kernel
theorem dL_law_292 : decode cL_law 292 = .ok (.iaload, 1) := by decide +kernel
theorem dL_law_293 : decode cL_law 293 = .ok (.aload_n 0, 1) := by decide +kernel
theorem dL_law_294 : decode cL_law 294 = .ok (.iload_n 3, 1) := by decide +kernel
theorem dL_law_295 : decode cL_law 295 = .ok (.iconst 3, 1) := by decide +kernel
theorem dL_law_296 : decode cL_law 296 = .ok (.iadd, 1) := by decide +kernel
theorem dL_law_297 : decode cL_law 297 = .ok (.iaload, 1) := by decide +kernel
theorem dL_law_298 : decode cL_law 298 = .ok (.invokevirtual 41, 3) := by decide +kernel
theorem dL_law_301 : decode cL_law 301 = .ok (.aload_n 2, 1) := by decide +kernel
theorem dL_law_302 : decode cL_law 302 = .ok (.aload_n 0, 1) := by decide +kernel
theorem dL_law_303 : decode cL_law 303 = .ok (.iload_n 3, 1) := by decide +kernel
theorem dL_law_304 : decode cL_law 304 = .ok (.iconst 1, 1) := by decide +kernel
theorem dL_law_305 : decode cL_law 305 = .ok (.iadd, 1) := by decide +kernel
theorem dL_law_306 : decode cL_law 306 = .ok (.iaload, 1) := by decide +kernel
theorem dL_law_307 : decode cL_law 307 = .ok (.aload_n 0, 1) := by decide +kernel
theorem dL_law_308 : decode cL_law 308 = .ok (.iload_n 3, 1) := by decide +kernel
theorem dL_law_309 : decode cL_law 309 = .ok (.iconst 2, 1) := by decide +kernel
theorem dL_law_310 : decode cL_law 310 = .ok (.iadd, 1) := by decide +kernel
theorem dL_law_311 : decode cL_law 311 = .ok (.iaload, 1) := by decide +kernel
theorem dL_law_312 : decode cL_law 312 = .ok (.aload_n 0, 1) := by decide +kernel
theorem dL_law_313 : decode cL_law 313 = .ok (.iload_n 3, 1) := by decide +kernel
theorem dL_law_314 : decode cL_law 314 = .ok (.iconst 3, 1) := by decide +kernel
theorem dL_law_315 : decode cL_law 315 = .ok (.iadd, 1) := by decide +kernel
theorem dL_law_316 : decode cL_law 316 = .ok (.iaload, 1) := by decide +kernel
theorem dL_law_317 : decode cL_law 317 = .ok (.invokevirtual 44, 3) := by decide +kernel
theorem dL_law_320 : decode cL_law 320 = .ok (.if_icmp .eq 371, 3) := by decide +kernel
theorem dL_law_323 : decode cL_law 323 = .ok (.iconst 0, 1) := by decide +kernel
theorem dL_law_324 : decode cL_law 324 = .ok (.ireturn, 1) := by decide +kernel
theorem dL_law_325 : decode cL_law 325 = .ok (.aload_n 1, 1) := by decide +kernel
theorem dL_law_326 : decode cL_law 326 = .ok (.aload_n 0, 1) := by decide +kernel
theorem dL_law_327 : decode cL_law 327 = .ok (.iload_n 3, 1) := by decide +kernel
theorem dL_law_328 : decode cL_law 328 = .ok (.iconst 1, 1) := by decide +kernel
theorem dL_law_329 : decode cL_law 329 = .ok (.iadd, 1) := by decide +kernel
theorem dL_law_330 : decode cL_law 330 = .ok (.iaload, 1) := by decide +kernel
theorem dL_law_331 : decode cL_law 331 = .ok (.invokevirtual 45, 3) := by decide +kernel
theorem dL_law_334 : decode cL_law 334 = .ok (.aload_n 2, 1) := by decide +kernel
theorem dL_law_335 : decode cL_law 335 = .ok (.aload_n 0, 1) := by decide +kernel
theorem dL_law_336 : decode cL_law 336 = .ok (.iload_n 3, 1) := by decide +kernel
theorem dL_law_337 : decode cL_law 337 = .ok (.iconst 1, 1) := by decide +kernel
theorem dL_law_338 : decode cL_law 338 = .ok (.iadd, 1) := by decide +kernel
theorem dL_law_339 : decode cL_law 339 = .ok (.iaload, 1) := by decide +kernel
theorem dL_law_340 : decode cL_law 340 = .ok (.invokevirtual 48, 3) := by decide +kernel
theorem dL_law_343 : decode cL_law 343 = .ok (.if_icmp .eq 348, 3) := by decide +kernel
theorem dL_law_346 : decode cL_law 346 = .ok (.iconst 0, 1) := by decide +kernel
theorem dL_law_347 : decode cL_law 347 = .ok (.ireturn, 1) := by decide +kernel
theorem dL_law_348 : decode cL_law 348 = .ok (.aload_n 1, 1) := by decide +kernel
theorem dL_law_349 : decode cL_law 349 = .ok (.aload_n 0, 1) := by decide +kernel
theorem dL_law_350 : decode cL_law 350 = .ok (.iload_n 3, 1) := by decide +kernel
theorem dL_law_351 : decode cL_law 351 = .ok (.iconst 1, 1) := by decide +kernel
theorem dL_law_352 : decode cL_law 352 = .ok (.iadd, 1) := by decide +kernel
theorem dL_law_353 : decode cL_law 353 = .ok (.iaload, 1) := by decide +kernel
theorem dL_law_354 : decode cL_law 354 = .ok (.invokevirtual 49, 3) := by decide +kernel
theorem dL_law_357 : decode cL_law 357 = .ok (.aload_n 2, 1) := by decide +kernel
theorem dL_law_358 : decode cL_law 358 = .ok (.aload_n 0, 1) := by decide +kernel
theorem dL_law_359 : decode cL_law 359 = .ok (.iload_n 3, 1) := by decide +kernel
theorem dL_law_360 : decode cL_law 360 = .ok (.iconst 1, 1) := by decide +kernel
theorem dL_law_361 : decode cL_law 361 = .ok (.iadd, 1) := by decide +kernel
theorem dL_law_362 : decode cL_law 362 = .ok (.iaload, 1) := by decide +kernel
theorem dL_law_363 : decode cL_law 363 = .ok (.invokevirtual 52, 3) := by decide +kernel
theorem dL_law_366 : decode cL_law 366 = .ok (.if_icmp .eq 325, 3) := by decide +kernel
theorem dL_law_369 : decode cL_law 369 = .ok (.iconst 0, 1) := by decide +kernel
theorem dL_law_370 : decode cL_law 370 = .ok (.ireturn, 1) := by decide +kernel
theorem dL_law_371 : decode cL_law 371 = .ok (.aload_n 1, 1) := by decide +kernel
theorem dL_law_372 : decode cL_law 372 = .ok (.aload_n 0, 1) := by decide +kernel
theorem dL_law_373 : decode cL_law 373 = .ok (.iload_n 3, 1) := by decide +kernel
theorem dL_law_374 : decode cL_law 374 = .ok (.iconst 1, 1) := by decide +kernel
theorem dL_law_375 : decode cL_law 375 = .ok (.iadd, 1) := by decide +kernel
theorem dL_law_376 : decode cL_law 376 = .ok (.iaload, 1) := by decide +kernel
theorem dL_law_377 : decode cL_law 377 = .ok (.aload_n 0, 1) := by decide +kernel
theorem dL_law_378 : decode cL_law 378 = .ok (.iload_n 3, 1) := by decide +kernel
theorem dL_law_379 : decode cL_law 379 = .ok (.iconst 2, 1) := by decide +kernel
theorem dL_law_380 : decode cL_law 380 = .ok (.iadd, 1) := by decide +kernel
theorem dL_law_381 : decode cL_law 381 = .ok (.iaload, 1) := by decide +kernel
theorem dL_law_382 : decode cL_law 382 = .ok (.invokevirtual 53, 3) := by decide +kernel
theorem dL_law_385 : decode cL_law 385 = .ok (.aload_n 2, 1) := by decide +kernel
theorem dL_law_386 : decode cL_law 386 = .ok (.aload_n 0, 1) := by decide +kernel
theorem dL_law_387 : decode cL_law 387 = .ok (.iload_n 3, 1) := by decide +kernel
theorem dL_law_388 : decode cL_law 388 = .ok (.iconst 1, 1) := by decide +kernel
theorem dL_law_389 : decode cL_law 389 = .ok (.iadd, 1) := by decide +kernel
theorem dL_law_390 : decode cL_law 390 = .ok (.iaload, 1) := by decide +kernel
theorem dL_law_391 : decode cL_law 391 = .ok (.aload_n 0, 1) := by decide +kernel
theorem dL_law_392 : decode cL_law 392 = .ok (.iload_n 3, 1) := by decide +kernel
theorem dL_law_393 : decode cL_law 393 = .ok (.iconst 2, 1) := by decide +kernel
theorem dL_law_394 : decode cL_law 394 = .ok (.iadd, 1) := by decide +kernel
theorem dL_law_395 : decode cL_law 395 = .ok (.iaload, 1) := by decide +kernel
theorem dL_law_396 : decode cL_law 396 = .ok (.invokevirtual 56, 3) := by decide +kernel
theorem dL_law_399 : decode cL_law 399 = .ok (.if_icmp .eq 292, 3) := by decide +kernel
theorem dL_law_402 : decode cL_law 402 = .ok (.iconst 0, 1) := by decide +kernel
theorem dL_law_403 : decode cL_law 403 = .ok (.ireturn, 1) := by decide +kernel
theorem dL_law_404 : decode cL_law 404 = .ok (.aload_n 1, 1) := by decide +kernel
theorem dL_law_405 : decode cL_law 405 = .ok (.aload_n 0, 1) := by decide +kernel
theorem dL_law_406 : decode cL_law 406 = .ok (.iload_n 3, 1) := by decide +kernel
theorem dL_law_407 : decode cL_law 407 = .ok (.iconst 1, 1) := by decide +kernel
theorem dL_law_408 : decode cL_law 408 = .ok (.iadd, 1) := by decide +kernel
theorem dL_law_409 : decode cL_law 409 = .ok (.iaload, 1) := by decide +kernel
theorem dL_law_410 : decode cL_law 410 = .ok (.aload_n 0, 1) := by decide +kernel
theorem dL_law_411 : decode cL_law 411 = .ok (.iload_n 3, 1) := by decide +kernel
theorem dL_law_412 : decode cL_law 412 = .ok (.iconst 2, 1) := by decide +kernel
theorem dL_law_413 : decode cL_law 413 = .ok (.iadd, 1) := by decide +kernel
theorem dL_law_414 : decode cL_law 414 = .ok (.iaload, 1) := by decide +kernel
theorem dL_law_415 : decode cL_law 415 = .ok (.invokevirtual 57, 3) := by decide +kernel
theorem dL_law_418 : decode cL_law 418 = .ok (.aload_n 2, 1) := by decide +kernel
theorem dL_law_419 : decode cL_law 419 = .ok (.aload_n 0, 1) := by decide +kernel
theorem dL_law_420 : decode cL_law 420 = .ok (.iload_n 3, 1) := by decide +kernel
theorem dL_law_421 : decode cL_law 421 = .ok (.iconst 1, 1) := by decide +kernel
theorem dL_law_422 : decode cL_law 422 = .ok (.iadd, 1) := by decide +kernel
theorem dL_law_423 : decode cL_law 423 = .ok (.iaload, 1) := by decide +kernel
theorem dL_law_424 : decode cL_law 424 = .ok (.aload_n 0, 1) := by decide +kernel
theorem dL_law_425 : decode cL_law 425 = .ok (.iload_n 3, 1) := by decide +kernel
theorem dL_law_426 : decode cL_law 426 = .ok (.iconst 2, 1) := by decide +kernel
theorem dL_law_427 : decode cL_law 427 = .ok (.iadd, 1) := by decide +kernel
theorem dL_law_428 : decode cL_law 428 = .ok (.iaload, 1) := by decide +kernel
theorem dL_law_429 : decode cL_law 429 = .ok (.invokevirtual 60, 3) := by decide +kernel
theorem dL_law_432 : decode cL_law 432 = .ok (.if_icmp .eq 259, 3) := by decide +kernel
theorem dL_law_435 : decode cL_law 435 = .ok (.iconst 0, 1) := by decide +kernel
theorem dL_law_436 : decode cL_law 436 = .ok (.ireturn, 1) := by decide +kernel
theorem dL_law_437 : decode cL_law 437 = .ok (.aload_n 1, 1) := by decide +kernel
theorem dL_law_438 : decode cL_law 438 = .ok (.aload_n 0, 1) := by decide +kernel
theorem dL_law_439 : decode cL_law 439 = .ok (.iload_n 3, 1) := by decide +kernel
theorem dL_law_440 : decode cL_law 440 = .ok (.iconst 1, 1) := by decide +kernel
theorem dL_law_441 : decode cL_law 441 = .ok (.iadd, 1) := by decide +kernel
theorem dL_law_442 : decode cL_law 442 = .ok (.iaload, 1) := by decide +kernel
theorem dL_law_443 : decode cL_law 443 = .ok (.aload_n 0, 1) := by decide +kernel
theorem dL_law_444 : decode cL_law 444 = .ok (.iload_n 3, 1) := by decide +kernel
theorem dL_law_445 : decode cL_law 445 = .ok (.iconst 2, 1) := by decide +kernel
theorem dL_law_446 : decode cL_law 446 = .ok (.iadd, 1) := by decide +kernel
theorem dL_law_447 : decode cL_law 447 = .ok (.iaload, 1) := by decide +kernel
theorem dL_law_448 : decode cL_law 448 = .ok (.invokevirtual 61, 3) := by decide +kernel
theorem dL_law_451 : decode cL_law 451 = .ok (.aload_n 2, 1) := by decide +kernel
theorem dL_law_452 : decode cL_law 452 = .ok (.aload_n 0, 1) := by decide +kernel
theorem dL_law_453 : decode cL_law 453 = .ok (.iload_n 3, 1) := by decide +kernel
theorem dL_law_454 : decode cL_law 454 = .ok (.iconst 1, 1) := by decide +kernel
theorem dL_law_455 : decode cL_law 455 = .ok (.iadd, 1) := by decide +kernel
theorem dL_law_456 : decode cL_law 456 = .ok (.iaload, 1) := by decide +kernel
theorem dL_law_457 : decode cL_law 457 = .ok (.aload_n 0, 1) := by decide +kernel
theorem dL_law_458 : decode cL_law 458 = .ok (.iload_n 3, 1) := by decide +kernel
theorem dL_law_459 : decode cL_law 459 = .ok (.iconst 2, 1) := by decide +kernel
theorem dL_law_460 : decode cL_law 460 = .ok (.iadd, 1) := by decide +kernel
theorem dL_law_461 : decode cL_law 461 = .ok (.iaload, 1) := by decide +kernel
theorem dL_law_462 : decode cL_law 462 = .ok (.invokevirtual 64, 3) := by decide +kernel
theorem dL_law_465 : decode cL_law 465 = .ok (.if_icmp .eq 226, 3) := by decide +kernel
theorem dL_law_468 : decode cL_law 468 = .ok (.iconst 0, 1) := by decide +kernel
theorem dL_law_469 : decode cL_law 469 = .ok (.ireturn, 1) := by decide +kernel
theorem dL_law_470 : decode cL_law 470 = .ok (.aload_n 1, 1) := by decide +kernel
theorem dL_law_471 : decode cL_law 471 = .ok (.aload_n 0, 1) := by decide +kernel
theorem dL_law_472 : decode cL_law 472 = .ok (.iload_n 3, 1) := by decide +kernel
theorem dL_law_473 : decode cL_law 473 = .ok (.iconst 1, 1) := by decide +kernel
theorem dL_law_474 : decode cL_law 474 = .ok (.iadd, 1) := by decide +kernel
theorem dL_law_475 : decode cL_law 475 = .ok (.iaload, 1) := by decide +kernel
theorem dL_law_476 : decode cL_law 476 = .ok (.aload_n 0, 1) := by decide +kernel
theorem dL_law_477 : decode cL_law 477 = .ok (.iload_n 3, 1) := by decide +kernel
theorem dL_law_478 : decode cL_law 478 = .ok (.iconst 2, 1) := by decide +kernel
theorem dL_law_479 : decode cL_law 479 = .ok (.iadd, 1) := by decide +kernel
theorem dL_law_480 : decode cL_law 480 = .ok (.iaload, 1) := by decide +kernel
theorem dL_law_481 : decode cL_law 481 = .ok (.invokevirtual 65, 3) := by decide +kernel
theorem dL_law_484 : decode cL_law 484 = .ok (.aload_n 2, 1) := by decide +kernel
theorem dL_law_485 : decode cL_law 485 = .ok (.aload_n 0, 1) := by decide +kernel
theorem dL_law_486 : decode cL_law 486 = .ok (.iload_n 3, 1) := by decide +kernel
theorem dL_law_487 : decode cL_law 487 = .ok (.iconst 1, 1) := by decide +kernel
theorem dL_law_488 : decode cL_law 488 = .ok (.iadd, 1) := by decide +kernel
theorem dL_law_489 : decode cL_law 489 = .ok (.iaload, 1) := by decide +kernel
theorem dL_law_490 : decode cL_law 490 = .ok (.aload_n 0, 1) := by decide +kernel
theorem dL_law_491 : decode cL_law 491 = .ok (.iload_n 3, 1) := by decide +kernel
theorem dL_law_492 : decode cL_law 492 = .ok (.iconst 2, 1) := by decide +kernel
theorem dL_law_493 : decode cL_law 493 = .ok (.iadd, 1) := by decide +kernel
theorem dL_law_494 : decode cL_law 494 = .ok (.iaload, 1) := by decide +kernel
theorem dL_law_495 : decode cL_law 495 = .ok (.invokevirtual 68, 3) := by decide +kernel
theorem dL_law_498 : decode cL_law 498 = .ok (.if_icmp .eq 193, 3) := by decide +kernel
theorem dL_law_501 : decode cL_law 501 = .ok (.iconst 0, 1) := by decide +kernel
theorem dL_law_502 : decode cL_law 502 = .ok (.ireturn, 1) := by decide +kernel
theorem dL_law_503 : decode cL_law 503 = .ok (.aload_n 1, 1) := by decide +kernel
theorem dL_law_504 : decode cL_law 504 = .ok (.aload_n 0, 1) := by decide +kernel
theorem dL_law_505 : decode cL_law 505 = .ok (.iload_n 3, 1) := by decide +kernel
theorem dL_law_506 : decode cL_law 506 = .ok (.iconst 1, 1) := by decide +kernel
theorem dL_law_507 : decode cL_law 507 = .ok (.iadd, 1) := by decide +kernel
theorem dL_law_508 : decode cL_law 508 = .ok (.iaload, 1) := by decide +kernel
theorem dL_law_509 : decode cL_law 509 = .ok (.aload_n 0, 1) := by decide +kernel
theorem dL_law_510 : decode cL_law 510 = .ok (.iload_n 3, 1) := by decide +kernel
theorem dL_law_511 : decode cL_law 511 = .ok (.iconst 2, 1) := by decide +kernel
theorem dL_law_512 : decode cL_law 512 = .ok (.iadd, 1) := by decide +kernel
theorem dL_law_513 : decode cL_law 513 = .ok (.iaload, 1) := by decide +kernel
theorem dL_law_514 : decode cL_law 514 = .ok (.aload_n 0, 1) := by decide +kernel
theorem dL_law_515 : decode cL_law 515 = .ok (.iload_n 3, 1) := by decide +kernel
theorem dL_law_516 : decode cL_law 516 = .ok (.iconst 3, 1) := by decide +kernel
theorem dL_law_517 : decode cL_law 517 = .ok (.iadd, 1) := by decide +kernel
theorem dL_law_518 : decode cL_law 518 = .ok (.iaload, 1) := by decide +kernel
theorem dL_law_519 : decode cL_law 519 = .ok (.invokevirtual 69, 3) := by decide +kernel
theorem dL_law_522 : decode cL_law 522 = .ok (.aload_n 2, 1) := by decide +kernel
theorem dL_law_523 : decode cL_law 523 = .ok (.aload_n 0, 1) := by decide +kernel
theorem dL_law_524 : decode cL_law 524 = .ok (.iload_n 3, 1) := by decide +kernel
theorem dL_law_525 : decode cL_law 525 = .ok (.iconst 1, 1) := by decide +kernel
theorem dL_law_526 : decode cL_law 526 = .ok (.iadd, 1) := by decide +kernel
theorem dL_law_527 : decode cL_law 527 = .ok (.iaload, 1) := by decide +kernel
theorem dL_law_528 : decode cL_law 528 = .ok (.aload_n 0, 1) := by decide +kernel
theorem dL_law_529 : decode cL_law 529 = .ok (.iload_n 3, 1) := by decide +kernel
theorem dL_law_530 : decode cL_law 530 = .ok (.iconst 2, 1) := by decide +kernel
theorem dL_law_531 : decode cL_law 531 = .ok (.iadd, 1) := by decide +kernel
theorem dL_law_532 : decode cL_law 532 = .ok (.iaload, 1) := by decide +kernel
theorem dL_law_533 : decode cL_law 533 = .ok (.aload_n 0, 1) := by decide +kernel
theorem dL_law_534 : decode cL_law 534 = .ok (.iload_n 3, 1) := by decide +kernel
theorem dL_law_535 : decode cL_law 535 = .ok (.iconst 3, 1) := by decide +kernel
theorem dL_law_536 : decode cL_law 536 = .ok (.iadd, 1) := by decide +kernel
theorem dL_law_537 : decode cL_law 537 = .ok (.iaload, 1) := by decide +kernel
theorem dL_law_538 : decode cL_law 538 = .ok (.invokevirtual 72, 3) := by decide +kernel
theorem dL_law_541 : decode cL_law 541 = .ok (.if_icmp .eq 150, 3) := by decide +kernel
theorem dL_law_544 : decode cL_law 544 = .ok (.iconst 0, 1) := by decide +kernel
theorem dL_law_545 : decode cL_law 545 = .ok (.ireturn, 1) := by decide +kernel
theorem dL_law_546 : decode cL_law 546 = .ok (.aload_n 1, 1) := by decide +kernel
theorem dL_law_547 : decode cL_law 547 = .ok (.aload_n 0, 1) := by decide +kernel
theorem dL_law_548 : decode cL_law 548 = .ok (.iload_n 3, 1) := by decide +kernel
theorem dL_law_549 : decode cL_law 549 = .ok (.iconst 1, 1) := by decide +kernel
theorem dL_law_550 : decode cL_law 550 = .ok (.iadd, 1) := by decide +kernel
theorem dL_law_551 : decode cL_law 551 = .ok (.iaload, 1) := by decide +kernel
theorem dL_law_552 : decode cL_law 552 = .ok (.aload_n 0, 1) := by decide +kernel
theorem dL_law_553 : decode cL_law 553 = .ok (.iload_n 3, 1) := by decide +kernel
theorem dL_law_554 : decode cL_law 554 = .ok (.iconst 2, 1) := by decide +kernel
theorem dL_law_555 : decode cL_law 555 = .ok (.iadd, 1) := by decide +kernel
theorem dL_law_556 : decode cL_law 556 = .ok (.iaload, 1) := by decide +kernel
theorem dL_law_557 : decode cL_law 557 = .ok (.invokevirtual 73, 3) := by decide +kernel
theorem dL_law_560 : decode cL_law 560 = .ok (.aload_n 2, 1) := by decide +kernel
theorem dL_law_561 : decode cL_law 561 = .ok (.aload_n 0, 1) := by decide +kernel
theorem dL_law_562 : decode cL_law 562 = .ok (.iload_n 3, 1) := by decide +kernel
theorem dL_law_563 : decode cL_law 563 = .ok (.iconst 1, 1) := by decide +kernel
theorem dL_law_564 : decode cL_law 564 = .ok (.iadd, 1) := by decide +kernel
theorem dL_law_565 : decode cL_law 565 = .ok (.iaload, 1) := by decide +kernel
theorem dL_law_566 : decode cL_law 566 = .ok (.aload_n 0, 1) := by decide +kernel
theorem dL_law_567 : decode cL_law 567 = .ok (.iload_n 3, 1) := by decide +kernel
theorem dL_law_568 : decode cL_law 568 = .ok (.iconst 2, 1) := by decide +kernel
theorem dL_law_569 : decode cL_law 569 = .ok (.iadd, 1) := by decide +kernel
theorem dL_law_570 : decode cL_law 570 = .ok (.iaload, 1) := by decide +kernel
theorem dL_law_571 : decode cL_law 571 = .ok (.invokevirtual 76, 3) := by decide +kernel
theorem dL_law_574 : decode cL_law 574 = .ok (.if_icmp .eq 117, 3) := by decide +kernel
theorem dL_law_577 : decode cL_law 577 = .ok (.iconst 0, 1) := by decide +kernel
theorem dL_law_578 : decode cL_law 578 = .ok (.ireturn, 1) := by decide +kernel
theorem dL_law_579 : decode cL_law 579 = .ok (.aload_n 1, 1) := by decide +kernel
theorem dL_law_580 : decode cL_law 580 = .ok (.aload_n 0, 1) := by decide +kernel
theorem dL_law_581 : decode cL_law 581 = .ok (.iload_n 3, 1) := by decide +kernel
theorem dL_law_582 : decode cL_law 582 = .ok (.iconst 1, 1) := by decide +kernel
theorem dL_law_583 : decode cL_law 583 = .ok (.iadd, 1) := by decide +kernel
theorem dL_law_584 : decode cL_law 584 = .ok (.iaload, 1) := by decide +kernel
theorem dL_law_585 : decode cL_law 585 = .ok (.aload_n 0, 1) := by decide +kernel
theorem dL_law_586 : decode cL_law 586 = .ok (.iload_n 3, 1) := by decide +kernel
theorem dL_law_587 : decode cL_law 587 = .ok (.iconst 2, 1) := by decide +kernel
theorem dL_law_588 : decode cL_law 588 = .ok (.iadd, 1) := by decide +kernel
theorem dL_law_589 : decode cL_law 589 = .ok (.iaload, 1) := by decide +kernel
theorem dL_law_590 : decode cL_law 590 = .ok (.aload_n 0, 1) := by decide +kernel
theorem dL_law_591 : decode cL_law 591 = .ok (.iload_n 3, 1) := by decide +kernel
theorem dL_law_592 : decode cL_law 592 = .ok (.iconst 3, 1) := by decide +kernel
theorem dL_law_593 : decode cL_law 593 = .ok (.iadd, 1) := by decide +kernel
theorem dL_law_594 : decode cL_law 594 = .ok (.iaload, 1) := by decide +kernel
theorem dL_law_595 : decode cL_law 595 = .ok (.invokevirtual 77, 3) := by decide +kernel
theorem dL_law_598 : decode cL_law 598 = .ok (.aload_n 2, 1) := by decide +kernel
theorem dL_law_599 : decode cL_law 599 = .ok (.aload_n 0, 1) := by decide +kernel
theorem dL_law_600 : decode cL_law 600 = .ok (.iload_n 3, 1) := by decide +kernel
theorem dL_law_601 : decode cL_law 601 = .ok (.iconst 1, 1) := by decide +kernel
theorem dL_law_602 : decode cL_law 602 = .ok (.iadd, 1) := by decide +kernel
theorem dL_law_603 : decode cL_law 603 = .ok (.iaload, 1) := by decide +kernel
theorem dL_law_604 : decode cL_law 604 = .ok (.aload_n 0, 1) := by decide +kernel
theorem dL_law_605 : decode cL_law 605 = .ok (.iload_n 3, 1) := by decide +kernel
theorem dL_law_606 : decode cL_law 606 = .ok (.iconst 2, 1) := by decide +kernel
theorem dL_law_607 : decode cL_law 607 = .ok (.iadd, 1) := by decide +kernel
theorem dL_law_608 : decode cL_law 608 = .ok (.iaload, 1) := by decide +kernel
theorem dL_law_609 : decode cL_law 609 = .ok (.aload_n 0, 1) := by decide +kernel
theorem dL_law_610 : decode cL_law 610 = .ok (.iload_n 3, 1) := by decide +kernel
theorem dL_law_611 : decode cL_law 611 = .ok (.iconst 3, 1) := by decide +kernel
theorem dL_law_612 : decode cL_law 612 = .ok (.iadd, 1) := by decide +kernel
theorem dL_law_613 : decode cL_law 613 = .ok (.iaload, 1) := by decide +kernel
theorem dL_law_614 : decode cL_law 614 = .ok (.invokevirtual 80, 3) := by decide +kernel
theorem dL_law_617 : decode cL_law 617 = .ok (.if_icmp .eq 74, 3) := by decide +kernel
theorem dL_law_620 : decode cL_law 620 = .ok (.iconst 0, 1) := by decide +kernel
theorem dL_law_621 : decode cL_law 621 = .ok (.ireturn, 1) := by decide +kernel
theorem dL_law_622 : decode cL_law 622 = .ok (.aload_n 1, 1) := by decide +kernel
theorem dL_law_623 : decode cL_law 623 = .ok (.aload_n 0, 1) := by decide +kernel
theorem dL_law_624 : decode cL_law 624 = .ok (.iload_n 3, 1) := by decide +kernel
theorem dL_law_625 : decode cL_law 625 = .ok (.iconst 1, 1) := by decide +kernel
theorem dL_law_626 : decode cL_law 626 = .ok (.iadd, 1) := by decide +kernel
theorem dL_law_627 : decode cL_law 627 = .ok (.iaload, 1) := by decide +kernel
theorem dL_law_628 : decode cL_law 628 = .ok (.invokevirtual 81, 3) := by decide +kernel
theorem dL_law_631 : decode cL_law 631 = .ok (.aload_n 2, 1) := by decide +kernel
theorem dL_law_632 : decode cL_law 632 = .ok (.aload_n 0, 1) := by decide +kernel
theorem dL_law_633 : decode cL_law 633 = .ok (.iload_n 3, 1) := by decide +kernel
theorem dL_law_634 : decode cL_law 634 = .ok (.iconst 1, 1) := by decide +kernel
theorem dL_law_635 : decode cL_law 635 = .ok (.iadd, 1) := by decide +kernel
theorem dL_law_636 : decode cL_law 636 = .ok (.iaload, 1) := by decide +kernel
theorem dL_law_637 : decode cL_law 637 = .ok (.invokevirtual 84, 3) := by decide +kernel
theorem dL_law_640 : decode cL_law 640 = .ok (.if_icmp .eq 51, 3) := by decide +kernel
theorem dL_law_643 : decode cL_law 643 = .ok (.iconst 0, 1) := by decide +kernel
theorem dL_law_644 : decode cL_law 644 = .ok (.ireturn, 1) := by decide +kernel
theorem dL_law_645 : decode cL_law 645 = .ok (.aload_n 1, 1) := by decide +kernel
theorem dL_law_646 : decode cL_law 646 = .ok (.aload_n 0, 1) := by decide +kernel
theorem dL_law_647 : decode cL_law 647 = .ok (.iload_n 3, 1) := by decide +kernel
theorem dL_law_648 : decode cL_law 648 = .ok (.iconst 1, 1) := by decide +kernel
theorem dL_law_649 : decode cL_law 649 = .ok (.iadd, 1) := by decide +kernel
theorem dL_law_650 : decode cL_law 650 = .ok (.iaload, 1) := by decide +kernel
theorem dL_law_651 : decode cL_law 651 = .ok (.invokevirtual 85, 3) := by decide +kernel
theorem dL_law_654 : decode cL_law 654 = .ok (.aload_n 2, 1) := by decide +kernel
theorem dL_law_655 : decode cL_law 655 = .ok (.aload_n 0, 1) := by decide +kernel
theorem dL_law_656 : decode cL_law 656 = .ok (.iload_n 3, 1) := by decide +kernel
theorem dL_law_657 : decode cL_law 657 = .ok (.iconst 1, 1) := by decide +kernel
theorem dL_law_658 : decode cL_law 658 = .ok (.iadd, 1) := by decide +kernel
theorem dL_law_659 : decode cL_law 659 = .ok (.iaload, 1) := by decide +kernel
theorem dL_law_660 : decode cL_law 660 = .ok (.invokevirtual 88, 3) := by decide +kernel
theorem dL_law_663 : decode cL_law 663 = .ok (.if_icmp .eq 28, 3) := by decide +kernel
theorem dL_law_666 : decode cL_law 666 = .ok (.iconst 0, 1) := by decide +kernel
theorem dL_law_667 : decode cL_law 667 = .ok (.ireturn, 1) := by decide +kernel
theorem dL_law_668 : decode cL_law 668 = .ok (.aload_n 1, 1) := by decide +kernel
theorem dL_law_669 : decode cL_law 669 = .ok (.aload_n 0, 1) := by decide +kernel
theorem dL_law_670 : decode cL_law 670 = .ok (.iload_n 3, 1) := by decide +kernel
theorem dL_law_671 : decode cL_law 671 = .ok (.iconst 1, 1) := by decide +kernel
theorem dL_law_672 : decode cL_law 672 = .ok (.iadd, 1) := by decide +kernel
theorem dL_law_673 : decode cL_law 673 = .ok (.iaload, 1) := by decide +kernel
theorem dL_law_674 : decode cL_law 674 = .ok (.invokevirtual 89, 3) := by decide +kernel
theorem dL_law_677 : decode cL_law 677 = .ok (.aload_n 2, 1) := by decide +kernel
theorem dL_law_678 : decode cL_law 678 = .ok (.aload_n 0, 1) := by decide +kernel
theorem dL_law_679 : decode cL_law 679 = .ok (.iload_n 3, 1) := by decide +kernel
theorem dL_law_680 : decode cL_law 680 = .ok (.iconst 1, 1) := by decide +kernel
theorem dL_law_681 : decode cL_law 681 = .ok (.iadd, 1) := by decide +kernel
theorem dL_law_682 : decode cL_law 682 = .ok (.iaload, 1) := by decide +kernel
theorem dL_law_683 : decode cL_law 683 = .ok (.invokevirtual 92, 3) := by decide +kernel
theorem dL_law_686 : decode cL_law 686 = .ok (.if_icmp .eq 5, 3) := by decide +kernel
theorem dL_law_689 : decode cL_law 689 = .ok (.iconst 0, 1) := by decide +kernel
theorem dL_law_690 : decode cL_law 690 = .ok (.ireturn, 1) := by decide +kernel
theorem dL_law_691 : decode cL_law 691 = .ok (.iinc 3 4, 3) := by decide +kernel
theorem dL_law_694 : decode cL_law 694 = .ok (.goto (-676), 3) := by decide +kernel
theorem dL_law_697 : decode cL_law 697 = .ok (.iconst 1, 1) := by decide +kernel
theorem dL_law_698 : decode cL_law 698 = .ok (.ireturn, 1) := by decide +kernel
