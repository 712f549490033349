theorem dX6_startSending_1 : decode cX6_startSending 1 = .ok (.getfield 38, 3) := by decide +kernel
theorem dX6_startSending_4 : decode cX6_startSending 4 = .ok (.iload_n 1, 1) := by decide +kernel
theorem dX6_startSending_5 : decode cX6_startSending 5 = .ok (.aload_n 0, 1) := by decide +kernel
theorem dX6_startSending_6 : decode cX6_startSending 6 = .ok (.getfield 56, 3) := by decide +kernel
theorem dX6_startSending_9 : decode cX6_startSending 9 = .ok (.invokevirtual 110, 3) := by decide +kernel
theorem dX6_startSending_12 : decode cX6_startSending 12 = .ok (.ifCond .ne 5, 3) := by decide +kernel
theorem dX6_startSending_15 : decode cX6_startSending 15 = .ok (.iconst 0, 1) := by decide +kernel
theorem dX6_startSending_16 : decode cX6_startSending 16 = .ok (.ireturn, 1) := by decide +kernel
theorem dX6_startSending_17 : decode cX6_startSending 17 = .ok (.aload_n 0, 1) := by decide +kernel
theorem dX6_startSending_18 : decode cX6_startSending 18 = .ok (.getfield 31, 3) := by decide +kernel
theorem dX6_startSending_21 : decode cX6_startSending 21 = .ok (.iconst 0, 1) := by decide +kernel
theorem dX6_startSending_22 : decode cX6_startSending 22 = .ok (.dup2, 1) := by decide +kernel
theorem dX6_startSending_23 : decode cX6_startSending 23 = .ok (.iaload, 1) := by decide +kernel
theorem dX6_startSending_24 : decode cX6_startSending 24 = .ok (.iconst 1, 1) := by decide +kernel
theorem dX6_startSending_25 : decode cX6_startSending 25 = .ok (.iadd, 1) := by decide +kernel
theorem dX6_startSending_26 : decode cX6_startSending 26 = .ok (.iastore, 1) := by decide +kernel
theorem dX6_startSending_27 : decode cX6_startSending 27 = .ok (.iconst 1, 1) := by decide +kernel
theorem dX6_startSending_28 : decode cX6_startSending 28 = .ok (.ireturn, 1) := by decide +kernel
theorem dX6_hear_0 : decode cX6_hear 0 = .ok (.aload_n 0, 1) := by decide +kernel
theorem dX6_hear_1 : decode cX6_hear 1 = .ok (.getfield 52, 3) := by decide +kernel
theorem dX6_hear_4 : decode cX6_hear 4 = .ok (.aload_n 1, 1) := by decide +kernel
theorem dX6_hear_5 : decode cX6_hear 5 = .ok (.invokevirtual 82, 3) := by decide +kernel
theorem dX6_hear_8 : decode cX6_hear 8 = .ok (.aload_n 0, 1) := by decide +kernel
theorem dX6_hear_9 : decode cX6_hear 9 = .ok (.iload_n 2, 1) := by decide +kernel
theorem dX6_hear_10 : decode cX6_hear 10 = .ok (.putfield 85, 3) := by decide +kernel
theorem dX6_hear_13 : decode cX6_hear 13 = .ok (.aload_n 0, 1) := by decide +kernel
theorem dX6_hear_14 : decode cX6_hear 14 = .ok (.getfield 31, 3) := by decide +kernel
theorem dX6_hear_17 : decode cX6_hear 17 = .ok (.iconst 1, 1) := by decide +kernel
theorem dX6_hear_18 : decode cX6_hear 18 = .ok (.dup2, 1) := by decide +kernel
theorem dX6_hear_19 : decode cX6_hear 19 = .ok (.iaload, 1) := by decide +kernel
theorem dX6_hear_20 : decode cX6_hear 20 = .ok (.iconst 1, 1) := by decide +kernel
theorem dX6_hear_21 : decode cX6_hear 21 = .ok (.iadd, 1) := by decide +kernel
theorem dX6_hear_22 : decode cX6_hear 22 = .ok (.iastore, 1) := by decide +kernel
theorem dX6_hear_23 : decode cX6_hear 23 = .ok (.aload_n 0, 1) := by decide +kernel
theorem dX6_hear_24 : decode cX6_hear 24 = .ok (.getfield 45, 3) := by decide +kernel
theorem dX6_hear_27 : decode cX6_hear 27 = .ok (.iload_n 2, 1) := by decide +kernel
theorem dX6_hear_28 : decode cX6_hear 28 = .ok (.aload_n 0, 1) := by decide +kernel
theorem dX6_hear_29 : decode cX6_hear 29 = .ok (.getfield 28, 3) := by decide +kernel
theorem dX6_hear_32 : decode cX6_hear 32 = .ok (.invokevirtual 114, 3) := by decide +kernel
theorem dX6_hear_35 : decode cX6_hear 35 = .ok (.aload_n 1, 1) := by decide +kernel
theorem dX6_hear_36 : decode cX6_hear 36 = .ok (.aload_n 0, 1) := by decide +kernel
theorem dX6_hear_37 : decode cX6_hear 37 = .ok (.getfield 62, 3) := by decide +kernel
theorem dX6_hear_40 : decode cX6_hear 40 = .ok (.invokevirtual 118, 3) := by decide +kernel
theorem dX6_hear_43 : decode cX6_hear 43 = .ok (.ifCond .eq 14, 3) := by decide +kernel
theorem dX6_hear_46 : decode cX6_hear 46 = .ok (.aload_n 0, 1) := by decide +kernel
theorem dX6_hear_47 : decode cX6_hear 47 = .ok (.getfield 31, 3) := by decide +kernel
theorem dX6_hear_50 : decode cX6_hear 50 = .ok (.iconst 2, 1) := by decide +kernel
theorem dX6_hear_51 : decode cX6_hear 51 = .ok (.dup2, 1) := by decide +kernel
theorem dX6_hear_52 : decode cX6_hear 52 = .ok (.iaload, 1) := by decide +kernel
theorem dX6_hear_53 : decode cX6_hear 53 = .ok (.iconst 1, 1) := by decide +kernel
theorem dX6_hear_54 : decode cX6_hear 54 = .ok (.iadd, 1) := by decide +kernel
theorem dX6_hear_55 : decode cX6_hear 55 = .ok (.iastore, 1) := by decide +kernel
theorem dX6_hear_56 : decode cX6_hear 56 = .ok (.return_, 1) := by decide +kernel
theorem dX6_hear_57 : decode cX6_hear 57 = .ok (.aload_n 0, 1) := by decide +kernel
theorem dX6_hear_58 : decode cX6_hear 58 = .ok (.getfield 45, 3) := by decide +kernel
theorem dX6_hear_61 : decode cX6_hear 61 = .ok (.aload_n 1, 1) := by decide +kernel
theorem dX6_hear_62 : decode cX6_hear 62 = .ok (.invokevirtual 99, 3) := by decide +kernel
theorem dX6_hear_65 : decode cX6_hear 65 = .ok (.bipush (-6), 2) := by decide +kernel
theorem dX6_hear_67 : decode cX6_hear 67 = .ok (.if_icmp .eq 14, 3) := by decide +kernel
theorem dX6_hear_70 : decode cX6_hear 70 = .ok (.aload_n 0, 1) := by decide +kernel
theorem dX6_hear_71 : decode cX6_hear 71 = .ok (.getfield 31, 3) := by decide +kernel
theorem dX6_hear_74 : decode cX6_hear 74 = .ok (.iconst 3, 1) := by decide +kernel
theorem dX6_hear_75 : decode cX6_hear 75 = .ok (.dup2, 1) := by decide +kernel
theorem dX6_hear_76 : decode cX6_hear 76 = .ok (.iaload, 1) := by decide +kernel
theorem dX6_hear_77 : decode cX6_hear 77 = .ok (.iconst 1, 1) := by decide +kernel
theorem dX6_hear_78 : decode cX6_hear 78 = .ok (.iadd, 1) := by decide +kernel
theorem dX6_hear_79 : decode cX6_hear 79 = .ok (.iastore, 1) := by decide +kernel
theorem dX6_hear_80 : decode cX6_hear 80 = .ok (.return_, 1) := by decide +kernel
theorem dX6_hear_81 : decode cX6_hear 81 = .ok (.aload_n 0, 1) := by decide +kernel
theorem dX6_hear_82 : decode cX6_hear 82 = .ok (.getfield 45, 3) := by decide +kernel
theorem dX6_hear_85 : decode cX6_hear 85 = .ok (.aload_n 1, 1) := by decide +kernel
theorem dX6_hear_86 : decode cX6_hear 86 = .ok (.iload_n 2, 1) := by decide +kernel
theorem dX6_hear_87 : decode cX6_hear 87 = .ok (.invokevirtual 107, 3) := by decide +kernel
theorem dX6_hear_90 : decode cX6_hear 90 = .ok (.aload_n 1, 1) := by decide +kernel
theorem dX6_hear_91 : decode cX6_hear 91 = .ok (.invokevirtual 122, 3) := by decide +kernel
theorem dX6_hear_94 : decode cX6_hear 94 = .ok (.istore_n 3, 1) := by decide +kernel
theorem dX6_hear_95 : decode cX6_hear 95 = .ok (.iload_n 3, 1) := by decide +kernel
theorem dX6_hear_96 : decode cX6_hear 96 = .ok (.bipush (-6), 2) := by decide +kernel
theorem dX6_hear_98 : decode cX6_hear 98 = .ok (.if_icmp .ne 14, 3) := by decide +kernel
theorem dX6_hear_101 : decode cX6_hear 101 = .ok (.aload_n 0, 1) := by decide +kernel
theorem dX6_hear_102 : decode cX6_hear 102 = .ok (.getfield 31, 3) := by decide +kernel
theorem dX6_hear_105 : decode cX6_hear 105 = .ok (.iconst 4, 1) := by decide +kernel
theorem dX6_hear_106 : decode cX6_hear 106 = .ok (.dup2, 1) := by decide +kernel
theorem dX6_hear_107 : decode cX6_hear 107 = .ok (.iaload, 1) := by decide +kernel
theorem dX6_hear_108 : decode cX6_hear 108 = .ok (.iconst 1, 1) := by decide +kernel
theorem dX6_hear_109 : decode cX6_hear 109 = .ok (.iadd, 1) := by decide +kernel
theorem dX6_hear_110 : decode cX6_hear 110 = .ok (.iastore, 1) := by decide +kernel
theorem dX6_hear_111 : decode cX6_hear 111 = .ok (.return_, 1) := by decide +kernel
theorem dX6_hear_112 : decode cX6_hear 112 = .ok (.aload_n 0, 1) := by decide +kernel
theorem dX6_hear_113 : decode cX6_hear 113 = .ok (.getfield 59, 3) := by decide +kernel
theorem dX6_hear_116 : decode cX6_hear 116 = .ok (.aload_n 1, 1) := by decide +kernel
theorem dX6_hear_117 : decode cX6_hear 117 = .ok (.invokevirtual 82, 3) := by decide +kernel
theorem dX6_hear_120 : decode cX6_hear 120 = .ok (.aload_n 0, 1) := by decide +kernel
theorem dX6_hear_121 : decode cX6_hear 121 = .ok (.aload_n 0, 1) := by decide +kernel
theorem dX6_hear_122 : decode cX6_hear 122 = .ok (.getfield 59, 3) := by decide +kernel
theorem dX6_hear_125 : decode cX6_hear 125 = .ok (.iload_n 3, 1) := by decide +kernel
theorem dX6_hear_126 : decode cX6_hear 126 = .ok (.invokevirtual 126, 3) := by decide +kernel
theorem dX6_hear_129 : decode cX6_hear 129 = .ok (.ifCond .ne 15, 3) := by decide +kernel
theorem dX6_hear_132 : decode cX6_hear 132 = .ok (.aload_n 0, 1) := by decide +kernel
theorem dX6_hear_133 : decode cX6_hear 133 = .ok (.getfield 31, 3) := by decide +kernel
theorem dX6_hear_136 : decode cX6_hear 136 = .ok (.bipush 6, 2) := by decide +kernel
theorem dX6_hear_138 : decode cX6_hear 138 = .ok (.dup2, 1) := by decide +kernel
theorem dX6_hear_139 : decode cX6_hear 139 = .ok (.iaload, 1) := by decide +kernel
theorem dX6_hear_140 : decode cX6_hear 140 = .ok (.iconst 1, 1) := by decide +kernel
theorem dX6_hear_141 : decode cX6_hear 141 = .ok (.iadd, 1) := by decide +kernel
theorem dX6_hear_142 : decode cX6_hear 142 = .ok (.iastore, 1) := by decide +kernel
theorem dX6_hear_143 : decode cX6_hear 143 = .ok (.return_, 1) := by decide +kernel
theorem dX6_hear_144 : decode cX6_hear 144 = .ok (.aload_n 0, 1) := by decide +kernel
theorem dX6_hear_145 : decode cX6_hear 145 = .ok (.getfield 31, 3) := by decide +kernel
theorem dX6_hear_148 : decode cX6_hear 148 = .ok (.iconst 5, 1) := by decide +kernel
theorem dX6_hear_149 : decode cX6_hear 149 = .ok (.dup2, 1) := by decide +kernel
theorem dX6_hear_150 : decode cX6_hear 150 = .ok (.iaload, 1) := by decide +kernel
theorem dX6_hear_151 : decode cX6_hear 151 = .ok (.iconst 1, 1) := by decide +kernel
theorem dX6_hear_152 : decode cX6_hear 152 = .ok (.iadd, 1) := by decide +kernel
theorem dX6_hear_153 : decode cX6_hear 153 = .ok (.iastore, 1) := by decide +kernel
theorem dX6_hear_154 : decode cX6_hear 154 = .ok (.aload_n 0, 1) := by decide +kernel
theorem dX6_hear_155 : decode cX6_hear 155 = .ok (.getfield 38, 3) := by decide +kernel
theorem dX6_hear_158 : decode cX6_hear 158 = .ok (.aload_n 0, 1) := by decide +kernel
theorem dX6_hear_159 : decode cX6_hear 159 = .ok (.getfield 59, 3) := by decide +kernel
theorem dX6_hear_162 : decode cX6_hear 162 = .ok (.iload_n 2, 1) := by decide +kernel
theorem dX6_hear_163 : decode cX6_hear 163 = .ok (.aload_n 0, 1) := by decide +kernel
theorem dX6_hear_164 : decode cX6_hear 164 = .ok (.getfield 25, 3) := by decide +kernel
theorem dX6_hear_167 : decode cX6_hear 167 = .ok (.iadd, 1) := by decide +kernel
theorem dX6_hear_168 : decode cX6_hear 168 = .ok (.invokevirtual 95, 3) := by decide +kernel
theorem dX6_hear_171 : decode cX6_hear 171 = .ok (.ifCond .ne 14, 3) := by decide +kernel
theorem dX6_hear_174 : decode cX6_hear 174 = .ok (.aload_n 0, 1) := by decide +kernel
theorem dX6_hear_175 : decode cX6_hear 175 = .ok (.getfield 31, 3) := by decide +kernel
theorem dX6_hear_178 : decode cX6_hear 178 = .ok (.bipush 8, 2) := by decide +kernel
theorem dX6_hear_180 : decode cX6_hear 180 = .ok (.dup2, 1) := by decide +kernel
theorem dX6_hear_181 : decode cX6_hear 181 = .ok (.iaload, 1) := by decide +kernel
theorem dX6_hear_182 : decode cX6_hear 182 = .ok (.iconst 1, 1) := by decide +kernel
theorem dX6_hear_183 : decode cX6_hear 183 = .ok (.iadd, 1) := by decide +kernel
theorem dX6_hear_184 : decode cX6_hear 184 = .ok (.iastore, 1) := by decide +kernel
theorem dX6_hear_185 : decode cX6_hear 185 = .ok (.return_, 1) := by decide +kernel
theorem dX6_changeIfMeant_0 : decode cX6_changeIfMeant 0 = .ok (.aload_n 1, 1) := by decide +kernel
theorem dX6_changeIfMeant_1 : decode cX6_changeIfMeant 1 = .ok (.iload_n 2, 1) := by decide +kernel
theorem dX6_changeIfMeant_2 : decode cX6_changeIfMeant 2 = .ok (.invokevirtual 129, 3) := by decide +kernel
theorem dX6_changeIfMeant_5 : decode cX6_changeIfMeant 5 = .ok (.istore_n 3, 1) := by decide +kernel
theorem dX6_changeIfMeant_6 : decode cX6_changeIfMeant 6 = .ok (.aload_n 1, 1) := by decide +kernel
theorem dX6_changeIfMeant_7 : decode cX6_changeIfMeant 7 = .ok (.iload_n 2, 1) := by decide +kernel
theorem dX6_changeIfMeant_8 : decode cX6_changeIfMeant 8 = .ok (.invokevirtual 133, 3) := by decide +kernel
theorem dX6_changeIfMeant_11 : decode cX6_changeIfMeant 11 = .ok (.istore 4, 2) := by decide +kernel
theorem dX6_changeIfMeant_13 : decode cX6_changeIfMeant 13 = .ok (.iload_n 3, 1) := by decide +kernel
theorem dX6_changeIfMeant_14 : decode cX6_changeIfMeant 14 = .ok (.aload_n 0, 1) := by decide +kernel
theorem dX6_changeIfMeant_15 : decode cX6_changeIfMeant 15 = .ok (.getfield 62, 3) := by decide +kernel
theorem dX6_changeIfMeant_18 : decode cX6_changeIfMeant 18 = .ok (.if_icmp .eq 19, 3) := by decide +kernel
theorem dX6_changeIfMeant_21 : decode cX6_changeIfMeant 21 = .ok (.iload 4, 2) := by decide +kernel
theorem dX6_changeIfMeant_23 : decode cX6_changeIfMeant 23 = .ok (.ifCond .ne 25, 3) := by decide +kernel
theorem dX6_changeIfMeant_26 : decode cX6_changeIfMeant 26 = .ok (.aload_n 0, 1) := by decide +kernel
theorem dX6_changeIfMeant_27 : decode cX6_changeIfMeant 27 = .ok (.getfield 12, 3) := by decide +kernel
theorem dX6_changeIfMeant_30 : decode cX6_changeIfMeant 30 = .ok (.iload_n 3, 1) := by decide +kernel
theorem dX6_changeIfMeant_31 : decode cX6_changeIfMeant 31 = .ok (.invokevirtual 136, 3) := by decide +kernel
theorem dX6_changeIfMeant_34 : decode cX6_changeIfMeant 34 = .ok (.ifCond .eq 14, 3) := by decide +kernel
theorem dX6_changeIfMeant_37 : decode cX6_changeIfMeant 37 = .ok (.aload_n 1, 1) := by decide +kernel
theorem dX6_changeIfMeant_38 : decode cX6_changeIfMeant 38 = .ok (.iload_n 2, 1) := by decide +kernel
theorem dX6_changeIfMeant_39 : decode cX6_changeIfMeant 39 = .ok (.aload_n 0, 1) := by decide +kernel
theorem dX6_changeIfMeant_40 : decode cX6_changeIfMeant 40 = .ok (.getfield 62, 3) := by decide +kernel
theorem dX6_changeIfMeant_43 : decode cX6_changeIfMeant 43 = .ok (.invokevirtual 139, 3) := by decide +kernel
theorem dX6_changeIfMeant_46 : decode cX6_changeIfMeant 46 = .ok (.iconst 1, 1) := by decide +kernel
theorem dX6_changeIfMeant_47 : decode cX6_changeIfMeant 47 = .ok (.ireturn, 1) := by decide +kernel
theorem dX6_changeIfMeant_48 : decode cX6_changeIfMeant 48 = .ok (.iload 4, 2) := by decide +kernel
theorem dX6_changeIfMeant_50 : decode cX6_changeIfMeant 50 = .ok (.ifCond .eq 14, 3) := by decide +kernel
theorem dX6_changeIfMeant_53 : decode cX6_changeIfMeant 53 = .ok (.aload_n 0, 1) := by decide +kernel
theorem dX6_changeIfMeant_54 : decode cX6_changeIfMeant 54 = .ok (.getfield 18, 3) := by decide +kernel
theorem dX6_changeIfMeant_57 : decode cX6_changeIfMeant 57 = .ok (.iload_n 3, 1) := by decide +kernel
theorem dX6_changeIfMeant_58 : decode cX6_changeIfMeant 58 = .ok (.invokevirtual 136, 3) := by decide +kernel
theorem dX6_changeIfMeant_61 : decode cX6_changeIfMeant 61 = .ok (.ifCond .ne 5, 3) := by decide +kernel
theorem dX6_changeIfMeant_64 : decode cX6_changeIfMeant 64 = .ok (.iconst 0, 1) := by decide +kernel
theorem dX6_changeIfMeant_65 : decode cX6_changeIfMeant 65 = .ok (.ireturn, 1) := by decide +kernel
theorem dX6_changeIfMeant_66 : decode cX6_changeIfMeant 66 = .ok (.iload 4, 2) := by decide +kernel
theorem dX6_changeIfMeant_68 : decode cX6_changeIfMeant 68 = .ok (.aload_n 0, 1) := by decide +kernel
theorem dX6_changeIfMeant_69 : decode cX6_changeIfMeant 69 = .ok (.getfield 21, 3) := by decide +kernel
theorem dX6_changeIfMeant_72 : decode cX6_changeIfMeant 72 = .ok (.invokestatic 142, 3) := by decide +kernel
theorem dX6_changeIfMeant_75 : decode cX6_changeIfMeant 75 = .ok (.iconst 1, 1) := by decide +kernel
theorem dX6_changeIfMeant_76 : decode cX6_changeIfMeant 76 = .ok (.isub, 1) := by decide +kernel
theorem dX6_changeIfMeant_77 : decode cX6_changeIfMeant 77 = .ok (.istore 5, 2) := by decide +kernel
theorem dX6_changeIfMeant_79 : decode cX6_changeIfMeant 79 = .ok (.iload 5, 2) := by decide +kernel
theorem dX6_changeIfMeant_81 : decode cX6_changeIfMeant 81 = .ok (.ifCond .ne 15, 3) := by decide +kernel
theorem dX6_changeIfMeant_84 : decode cX6_changeIfMeant 84 = .ok (.aload_n 1, 1) := by decide +kernel
theorem dX6_changeIfMeant_85 : decode cX6_changeIfMeant 85 = .ok (.iload_n 2, 1) := by decide +kernel
theorem dX6_changeIfMeant_86 : decode cX6_changeIfMeant 86 = .ok (.aload_n 0, 1) := by decide +kernel
theorem dX6_changeIfMeant_87 : decode cX6_changeIfMeant 87 = .ok (.getfield 62, 3) := by decide +kernel
theorem dX6_changeIfMeant_90 : decode cX6_changeIfMeant 90 = .ok (.invokevirtual 139, 3) := by decide +kernel
theorem dX6_changeIfMeant_93 : decode cX6_changeIfMeant 93 = .ok (.goto 19, 3) := by decide +kernel
theorem dX6_changeIfMeant_96 : decode cX6_changeIfMeant 96 = .ok (.aload_n 1, 1) := by decide +kernel
theorem dX6_changeIfMeant_97 : decode cX6_changeIfMeant 97 = .ok (.iload_n 2, 1) := by decide +kernel
theorem dX6_changeIfMeant_98 : decode cX6_changeIfMeant 98 = .ok (.iload 5, 2) := by decide +kernel
theorem dX6_changeIfMeant_100 : decode cX6_changeIfMeant 100 = .ok (.invokevirtual 148, 3) := by decide +kernel
theorem dX6_changeIfMeant_103 : decode cX6_changeIfMeant 103 = .ok (.aload_n 1, 1) := by decide +kernel
theorem dX6_changeIfMeant_104 : decode cX6_changeIfMeant 104 = .ok (.iload_n 2, 1) := by decide +kernel
theorem dX6_changeIfMeant_105 : decode cX6_changeIfMeant 105 = .ok (.aload_n 0, 1) := by decide +kernel
theorem dX6_changeIfMeant_106 : decode cX6_changeIfMeant 106 = .ok (.getfield 62, 3) := by decide +kernel
theorem dX6_changeIfMeant_109 : decode cX6_changeIfMeant 109 = .ok (.invokevirtual 151, 3) := by decide +kernel
theorem dX6_changeIfMeant_112 : decode cX6_changeIfMeant 112 = .ok (.iconst 1, 1) := by decide +kernel
theorem dX6_changeIfMeant_113 : decode cX6_changeIfMeant 113 = .ok (.ireturn, 1) := by decide +kernel
theorem dX7_init_0 : decode cX7_init 0 = .ok (.aload_n 0, 1) := by decide +kernel
theorem dX7_init_1 : decode cX7_init 1 = .ok (.invokespecial 3, 3) := by decide +kernel
theorem dX7_init_4 : decode cX7_init 4 = .ok (.aload_n 0, 1) := by decide +kernel
theorem dX7_init_5 : decode cX7_init 5 = .ok (.new 9, 3) := by decide +kernel
theorem dX7_init_8 : decode cX7_init 8 = .ok (.dup, 1) := by decide +kernel
theorem dX7_init_9 : decode cX7_init 9 = .ok (.invokespecial 11, 3) := by decide +kernel
theorem dX7_init_12 : decode cX7_init 12 = .ok (.putfield 12, 3) := by decide +kernel
theorem dX7_init_15 : decode cX7_init 15 = .ok (.aload_n 0, 1) := by decide +kernel
theorem dX7_init_16 : decode cX7_init 16 = .ok (.new 18, 3) := by decide +kernel
theorem dX7_init_19 : decode cX7_init 19 = .ok (.dup, 1) := by decide +kernel
theorem dX7_init_20 : decode cX7_init 20 = .ok (.invokespecial 20, 3) := by decide +kernel
theorem dX7_init_23 : decode cX7_init 23 = .ok (.putfield 21, 3) := by decide +kernel
theorem dX7_init_26 : decode cX7_init 26 = .ok (.return_, 1) := by decide +kernel
theorem dX7_prepare_0 : decode cX7_prepare 0 = .ok (.aload_n 0, 1) := by decide +kernel
theorem dX7_prepare_1 : decode cX7_prepare 1 = .ok (.getfield 12, 3) := by decide +kernel
theorem dX7_prepare_4 : decode cX7_prepare 4 = .ok (.aload_n 1, 1) := by decide +kernel
theorem dX7_prepare_5 : decode cX7_prepare 5 = .ok (.invokevirtual 25, 3) := by decide +kernel
theorem dX7_prepare_8 : decode cX7_prepare 8 = .ok (.return_, 1) := by decide +kernel
theorem dX7_spread_0 : decode cX7_spread 0 = .ok (.aload_n 0, 1) := by decide +kernel
theorem dX7_spread_1 : decode cX7_spread 1 = .ok (.iconst 0, 1) := by decide +kernel
theorem dX7_spread_2 : decode cX7_spread 2 = .ok (.putfield 29, 3) := by decide +kernel
theorem dX7_spread_5 : decode cX7_spread 5 = .ok (.aload_n 0, 1) := by decide +kernel
theorem dX7_spread_6 : decode cX7_spread 6 = .ok (.bipush (-6), 2) := by decide +kernel
theorem dX7_spread_8 : decode cX7_spread 8 = .ok (.putfield 33, 3) := by decide +kernel
theorem dX7_spread_11 : decode cX7_spread 11 = .ok (.iload_n 1, 1) := by decide +kernel
theorem dX7_spread_12 : decode cX7_spread 12 = .ok (.invokestatic 36, 3) := by decide +kernel
theorem dX7_spread_15 : decode cX7_spread 15 = .ok (.ifCond .ne 4, 3) := by decide +kernel
theorem dX7_spread_18 : decode cX7_spread 18 = .ok (.return_, 1) := by decide +kernel
theorem dX7_spread_19 : decode cX7_spread 19 = .ok (.aload_n 0, 1) := by decide +kernel
theorem dX7_spread_20 : decode cX7_spread 20 = .ok (.getfield 21, 3) := by decide +kernel
theorem dX7_spread_23 : decode cX7_spread 23 = .ok (.invokevirtual 40, 3) := by decide +kernel
theorem dX7_spread_26 : decode cX7_spread 26 = .ok (.aload_n 0, 1) := by decide +kernel
theorem dX7_spread_27 : decode cX7_spread 27 = .ok (.getfield 21, 3) := by decide +kernel
theorem dX7_spread_30 : decode cX7_spread 30 = .ok (.aload_n 0, 1) := by decide +kernel
theorem dX7_spread_31 : decode cX7_spread 31 = .ok (.getfield 12, 3) := by decide +kernel
theorem dX7_spread_34 : decode cX7_spread 34 = .ok (.getfield 43, 3) := by decide +kernel
theorem dX7_spread_37 : decode cX7_spread 37 = .ok (.iload_n 1, 1) := by decide +kernel
theorem dX7_spread_38 : decode cX7_spread 38 = .ok (.aaload, 1) := by decide +kernel
theorem dX7_spread_39 : decode cX7_spread 39 = .ok (.getfield 47, 3) := by decide +kernel
theorem dX7_spread_42 : decode cX7_spread 42 = .ok (.putfield 52, 3) := by decide +kernel
theorem dX7_spread_45 : decode cX7_spread 45 = .ok (.aload_n 0, 1) := by decide +kernel
theorem dX7_spread_46 : decode cX7_spread 46 = .ok (.getfield 21, 3) := by decide +kernel
theorem dX7_spread_49 : decode cX7_spread 49 = .ok (.iconst 1, 1) := by decide +kernel
theorem dX7_spread_50 : decode cX7_spread 50 = .ok (.putfield 55, 3) := by decide +kernel
theorem dX7_spread_53 : decode cX7_spread 53 = .ok (.aload_n 0, 1) := by decide +kernel
theorem dX7_spread_54 : decode cX7_spread 54 = .ok (.getfield 21, 3) := by decide +kernel
theorem dX7_spread_57 : decode cX7_spread 57 = .ok (.iload_n 2, 1) := by decide +kernel
theorem dX7_spread_58 : decode cX7_spread 58 = .ok (.iload_n 3, 1) := by decide +kernel
theorem dX7_spread_59 : decode cX7_spread 59 = .ok (.iconst 0, 1) := by decide +kernel
theorem dX7_spread_60 : decode cX7_spread 60 = .ok (.invokevirtual 58, 3) := by decide +kernel
theorem dX7_spread_63 : decode cX7_spread 63 = .ok (.aload_n 0, 1) := by decide +kernel
theorem dX7_spread_64 : decode cX7_spread 64 = .ok (.getfield 12, 3) := by decide +kernel
theorem dX7_spread_67 : decode cX7_spread 67 = .ok (.getfield 43, 3) := by decide +kernel
theorem dX7_spread_70 : decode cX7_spread 70 = .ok (.iload_n 1, 1) := by decide +kernel
theorem dX7_spread_71 : decode cX7_spread 71 = .ok (.aaload, 1) := by decide +kernel
theorem dX7_spread_72 : decode cX7_spread 72 = .ok (.aload_n 0, 1) := by decide +kernel
theorem dX7_spread_73 : decode cX7_spread 73 = .ok (.getfield 21, 3) := by decide +kernel
theorem dX7_spread_76 : decode cX7_spread 76 = .ok (.iconst 0, 1) := by decide +kernel
theorem dX7_spread_77 : decode cX7_spread 77 = .ok (.invokevirtual 62, 3) := by decide +kernel
theorem dX7_spread_80 : decode cX7_spread 80 = .ok (.iconst 0, 1) := by decide +kernel
theorem dX7_spread_81 : decode cX7_spread 81 = .ok (.istore 4, 2) := by decide +kernel
theorem dX7_spread_83 : decode cX7_spread 83 = .ok (.iload 4, 2) := by decide +kernel
theorem dX7_spread_85 : decode cX7_spread 85 = .ok (.ldc 66, 2) := by decide +kernel
theorem dX7_spread_87 : decode cX7_spread 87 = .ok (.if_icmp .ge 65, 3) := by decide +kernel
theorem dX7_spread_90 : decode cX7_spread 90 = .ok (.aload_n 0, 1) := by decide +kernel
theorem dX7_spread_91 : decode cX7_spread 91 = .ok (.getfield 12, 3) := by decide +kernel
theorem dX7_spread_94 : decode cX7_spread 94 = .ok (.invokevirtual 67, 3) := by decide +kernel
theorem dX7_spread_97 : decode cX7_spread 97 = .ok (.ifCond .le 55, 3) := by decide +kernel
theorem dX7_spread_100 : decode cX7_spread 100 = .ok (.aload_n 0, 1) := by decide +kernel
theorem dX7_spread_101 : decode cX7_spread 101 = .ok (.getfield 12, 3) := by decide +kernel
theorem dX7_spread_104 : decode cX7_spread 104 = .ok (.getfield 71, 3) := by decide +kernel
theorem dX7_spread_107 : decode cX7_spread 107 = .ok (.istore 5, 2) := by decide +kernel
theorem dX7_spread_109 : decode cX7_spread 109 = .ok (.aload_n 0, 1) := by decide +kernel
theorem dX7_spread_110 : decode cX7_spread 110 = .ok (.getfield 12, 3) := by decide +kernel
theorem dX7_spread_113 : decode cX7_spread 113 = .ok (.invokevirtual 74, 3) := by decide +kernel
theorem dX7_spread_116 : decode cX7_spread 116 = .ok (.aload_n 0, 1) := by decide +kernel
theorem dX7_spread_117 : decode cX7_spread 117 = .ok (.getfield 12, 3) := by decide +kernel
theorem dX7_spread_120 : decode cX7_spread 120 = .ok (.invokevirtual 77, 3) := by decide +kernel
theorem dX7_spread_123 : decode cX7_spread 123 = .ok (.istore 6, 2) := by decide +kernel
theorem dX7_spread_125 : decode cX7_spread 125 = .ok (.iload 6, 2) := by decide +kernel
theorem dX7_spread_127 : decode cX7_spread 127 = .ok (.aload_n 0, 1) := by decide +kernel
theorem dX7_spread_128 : decode cX7_spread 128 = .ok (.getfield 29, 3) := by decide +kernel
theorem dX7_spread_131 : decode cX7_spread 131 = .ok (.if_icmp .eq 15, 3) := by decide +kernel
theorem dX7_spread_134 : decode cX7_spread 134 = .ok (.aload_n 0, 1) := by decide +kernel
theorem dX7_spread_135 : decode cX7_spread 135 = .ok (.iload 6, 2) := by decide +kernel
theorem dX7_spread_137 : decode cX7_spread 137 = .ok (.putfield 29, 3) := by decide +kernel
theorem dX7_spread_140 : decode cX7_spread 140 = .ok (.aload_n 0, 1) := by decide +kernel
theorem dX7_spread_141 : decode cX7_spread 141 = .ok (.iload 5, 2) := by decide +kernel
theorem dX7_spread_143 : decode cX7_spread 143 = .ok (.putfield 33, 3) := by decide +kernel
theorem dX7_spread_146 : decode cX7_spread 146 = .ok (.iinc 4 1, 3) := by decide +kernel
theorem dX7_spread_149 : decode cX7_spread 149 = .ok (.goto (-66), 3) := by decide +kernel
theorem dX7_spread_152 : decode cX7_spread 152 = .ok (.return_, 1) := by decide +kernel
theorem dX8_init_0 : decode cX8_init 0 = .ok (.aload_n 0, 1) := by decide +kernel
theorem dX8_init_1 : decode cX8_init 1 = .ok (.invokespecial 3, 3) := by decide +kernel
theorem dX8_init_4 : decode cX8_init 4 = .ok (.aload_n 0, 1) := by decide +kernel
theorem dX8_init_5 : decode cX8_init 5 = .ok (.bipush 64, 2) := by decide +kernel
theorem dX8_init_7 : decode cX8_init 7 = .ok (.newarray .int, 2) := by decide +kernel
theorem dX8_init_9 : decode cX8_init 9 = .ok (.putfield 9, 3) := by decide +kernel
theorem dX8_init_12 : decode cX8_init 12 = .ok (.return_, 1) := by decide +kernel
theorem dX8_write_0 : decode cX8_write 0 = .ok (.aload_n 0, 1) := by decide +kernel
theorem dX8_write_1 : decode cX8_write 1 = .ok (.iconst 0, 1) := by decide +kernel
theorem dX8_write_2 : decode cX8_write 2 = .ok (.putfield 15, 3) := by decide +kernel
theorem dX8_write_5 : decode cX8_write 5 = .ok (.aload_n 0, 1) := by decide +kernel
theorem dX8_write_6 : decode cX8_write 6 = .ok (.aload_n 1, 1) := by decide +kernel
theorem dX8_write_7 : decode cX8_write 7 = .ok (.getfield 19, 3) := by decide +kernel
theorem dX8_write_10 : decode cX8_write 10 = .ok (.bipush 65, 2) := by decide +kernel
theorem dX8_write_12 : decode cX8_write 12 = .ok (.invokevirtual 24, 3) := by decide +kernel
theorem dX8_write_15 : decode cX8_write 15 = .ok (.aload_n 0, 1) := by decide +kernel
theorem dX8_write_16 : decode cX8_write 16 = .ok (.bipush 62, 2) := by decide +kernel
theorem dX8_write_18 : decode cX8_write 18 = .ok (.invokevirtual 28, 3) := by decide +kernel
theorem dX8_write_21 : decode cX8_write 21 = .ok (.iconst 0, 1) := by decide +kernel
theorem dX8_write_22 : decode cX8_write 22 = .ok (.istore_n 2, 1) := by decide +kernel
theorem dX8_write_23 : decode cX8_write 23 = .ok (.iload_n 2, 1) := by decide +kernel
theorem dX8_write_24 : decode cX8_write 24 = .ok (.aload_n 1, 1) := by decide +kernel
theorem dX8_write_25 : decode cX8_write 25 = .ok (.getfield 32, 3) := by decide +kernel
theorem dX8_write_28 : decode cX8_write 28 = .ok (.if_icmp .ge 25, 3) := by decide +kernel
theorem dX8_write_31 : decode cX8_write 31 = .ok (.iload_n 2, 1) := by decide +kernel
theorem dX8_write_32 : decode cX8_write 32 = .ok (.ifCond .le 9, 3) := by decide +kernel
theorem dX8_write_35 : decode cX8_write 35 = .ok (.aload_n 0, 1) := by decide +kernel
theorem dX8_write_36 : decode cX8_write 36 = .ok (.bipush 44, 2) := by decide +kernel
theorem dX8_write_38 : decode cX8_write 38 = .ok (.invokevirtual 28, 3) := by decide +kernel
theorem dX8_write_41 : decode cX8_write 41 = .ok (.aload_n 0, 1) := by decide +kernel
theorem dX8_write_42 : decode cX8_write 42 = .ok (.aload_n 1, 1) := by decide +kernel
theorem dX8_write_43 : decode cX8_write 43 = .ok (.iload_n 2, 1) := by decide +kernel
theorem dX8_write_44 : decode cX8_write 44 = .ok (.invokevirtual 33, 3) := by decide +kernel
theorem dX8_write_47 : decode cX8_write 47 = .ok (.iinc 2 1, 3) := by decide +kernel
theorem dX8_write_50 : decode cX8_write 50 = .ok (.goto (-27), 3) := by decide +kernel
theorem dX8_write_53 : decode cX8_write 53 = .ok (.aload_n 0, 1) := by decide +kernel
theorem dX8_write_54 : decode cX8_write 54 = .ok (.bipush 58, 2) := by decide +kernel
theorem dX8_write_56 : decode cX8_write 56 = .ok (.invokevirtual 28, 3) := by decide +kernel
theorem dX8_write_59 : decode cX8_write 59 = .ok (.aload_n 0, 1) := by decide +kernel
theorem dX8_write_60 : decode cX8_write 60 = .ok (.aload_n 1, 1) := by decide +kernel
theorem dX8_write_61 : decode cX8_write 61 = .ok (.getfield 37, 3) := by decide +kernel
theorem dX8_write_64 : decode cX8_write 64 = .ok (.bipush 97, 2) := by decide +kernel
theorem dX8_write_66 : decode cX8_write 66 = .ok (.invokevirtual 24, 3) := by decide +kernel
theorem dX8_write_69 : decode cX8_write 69 = .ok (.return_, 1) := by decide +kernel
theorem dX8_signAt_0 : decode cX8_signAt 0 = .ok (.iload_n 1, 1) := by decide +kernel
theorem dX8_signAt_1 : decode cX8_signAt 1 = .ok (.ifCond .lt 26, 3) := by decide +kernel
theorem dX8_signAt_4 : decode cX8_signAt 4 = .ok (.iload_n 1, 1) := by decide +kernel
theorem dX8_signAt_5 : decode cX8_signAt 5 = .ok (.aload_n 0, 1) := by decide +kernel
theorem dX8_signAt_6 : decode cX8_signAt 6 = .ok (.getfield 15, 3) := by decide +kernel
theorem dX8_signAt_9 : decode cX8_signAt 9 = .ok (.if_icmp .ge 18, 3) := by decide +kernel
theorem dX8_signAt_12 : decode cX8_signAt 12 = .ok (.iload_n 1, 1) := by decide +kernel
theorem dX8_signAt_13 : decode cX8_signAt 13 = .ok (.bipush 64, 2) := by decide +kernel
theorem dX8_signAt_15 : decode cX8_signAt 15 = .ok (.if_icmp .ge 12, 3) := by decide +kernel
theorem dX8_signAt_18 : decode cX8_signAt 18 = .ok (.aload_n 0, 1) := by decide +kernel
theorem dX8_signAt_19 : decode cX8_signAt 19 = .ok (.getfield 9, 3) := by decide +kernel
theorem dX8_signAt_22 : decode cX8_signAt 22 = .ok (.iload_n 1, 1) := by decide +kernel
theorem dX8_signAt_23 : decode cX8_signAt 23 = .ok (.iaload, 1) := by decide +kernel
theorem dX8_signAt_24 : decode cX8_signAt 24 = .ok (.goto 5, 3) := by decide +kernel
theorem dX8_signAt_27 : decode cX8_signAt 27 = .ok (.bipush (-6), 2) := by decide +kernel
theorem dX8_signAt_29 : decode cX8_signAt 29 = .ok (.ireturn, 1) := by decide +kernel
theorem dX8_putWord_0 : decode cX8_putWord 0 = .ok (.aload_n 0, 1) := by decide +kernel
theorem dX8_putWord_1 : decode cX8_putWord 1 = .ok (.aload_n 1, 1) := by decide +kernel
theorem dX8_putWord_2 : decode cX8_putWord 2 = .ok (.iload_n 2, 1) := by decide +kernel
theorem dX8_putWord_3 : decode cX8_putWord 3 = .ok (.invokevirtual 40, 3) := by decide +kernel
theorem dX8_putWord_6 : decode cX8_putWord 6 = .ok (.bipush 65, 2) := by decide +kernel
theorem dX8_putWord_8 : decode cX8_putWord 8 = .ok (.invokevirtual 24, 3) := by decide +kernel
theorem dX8_putWord_11 : decode cX8_putWord 11 = .ok (.aload_n 1, 1) := by decide +kernel
theorem dX8_putWord_12 : decode cX8_putWord 12 = .ok (.iload_n 2, 1) := by decide +kernel
theorem dX8_putWord_13 : decode cX8_putWord 13 = .ok (.invokevirtual 44, 3) := by decide +kernel
theorem dX8_putWord_16 : decode cX8_putWord 16 = .ok (.ifCond .le 21, 3) := by decide +kernel
theorem dX8_putWord_19 : decode cX8_putWord 19 = .ok (.aload_n 0, 1) := by decide +kernel
theorem dX8_putWord_20 : decode cX8_putWord 20 = .ok (.bipush 45, 2) := by decide +kernel
theorem dX8_putWord_22 : decode cX8_putWord 22 = .ok (.invokevirtual 28, 3) := by decide +kernel
theorem dX8_putWord_25 : decode cX8_putWord 25 = .ok (.aload_n 0, 1) := by decide +kernel
theorem dX8_putWord_26 : decode cX8_putWord 26 = .ok (.bipush 48, 2) := by decide +kernel
theorem dX8_putWord_28 : decode cX8_putWord 28 = .ok (.aload_n 1, 1) := by decide +kernel
theorem dX8_putWord_29 : decode cX8_putWord 29 = .ok (.iload_n 2, 1) := by decide +kernel
theorem dX8_putWord_30 : decode cX8_putWord 30 = .ok (.invokevirtual 44, 3) := by decide +kernel
theorem dX8_putWord_33 : decode cX8_putWord 33 = .ok (.iadd, 1) := by decide +kernel
theorem dX8_putWord_34 : decode cX8_putWord 34 = .ok (.invokevirtual 28, 3) := by decide +kernel
theorem dX8_putWord_37 : decode cX8_putWord 37 = .ok (.aload_n 1, 1) := by decide +kernel
theorem dX8_putWord_38 : decode cX8_putWord 38 = .ok (.iload_n 2, 1) := by decide +kernel
theorem dX8_putWord_39 : decode cX8_putWord 39 = .ok (.invokevirtual 47, 3) := by decide +kernel
theorem dX8_putWord_42 : decode cX8_putWord 42 = .ok (.ifCond .eq 9, 3) := by decide +kernel
theorem dX8_putWord_45 : decode cX8_putWord 45 = .ok (.aload_n 0, 1) := by decide +kernel
theorem dX8_putWord_46 : decode cX8_putWord 46 = .ok (.bipush 42, 2) := by decide +kernel
theorem dX8_putWord_48 : decode cX8_putWord 48 = .ok (.invokevirtual 28, 3) := by decide +kernel
theorem dX8_putWord_51 : decode cX8_putWord 51 = .ok (.return_, 1) := by decide +kernel
theorem dX8_putLetters_0 : decode cX8_putLetters 0 = .ok (.iconst 3, 1) := by decide +kernel
theorem dX8_putLetters_1 : decode cX8_putLetters 1 = .ok (.istore_n 3, 1) := by decide +kernel
theorem dX8_putLetters_2 : decode cX8_putLetters 2 = .ok (.iload_n 3, 1) := by decide +kernel
theorem dX8_putLetters_3 : decode cX8_putLetters 3 = .ok (.ifCond .lt 34, 3) := by decide +kernel
theorem dX8_putLetters_6 : decode cX8_putLetters 6 = .ok (.iload_n 1, 1) := by decide +kernel
theorem dX8_putLetters_7 : decode cX8_putLetters 7 = .ok (.iconst 5, 1) := by decide +kernel
theorem dX8_putLetters_8 : decode cX8_putLetters 8 = .ok (.iload_n 3, 1) := by decide +kernel
theorem dX8_putLetters_9 : decode cX8_putLetters 9 = .ok (.imul, 1) := by decide +kernel
theorem dX8_putLetters_10 : decode cX8_putLetters 10 = .ok (.ishr, 1) := by decide +kernel
theorem dX8_putLetters_11 : decode cX8_putLetters 11 = .ok (.bipush 31, 2) := by decide +kernel
theorem dX8_putLetters_13 : decode cX8_putLetters 13 = .ok (.iand, 1) := by decide +kernel
theorem dX8_putLetters_14 : decode cX8_putLetters 14 = .ok (.istore 4, 2) := by decide +kernel
theorem dX8_putLetters_16 : decode cX8_putLetters 16 = .ok (.iload 4, 2) := by decide +kernel
theorem dX8_putLetters_18 : decode cX8_putLetters 18 = .ok (.ifCond .le 13, 3) := by decide +kernel
theorem dX8_putLetters_21 : decode cX8_putLetters 21 = .ok (.aload_n 0, 1) := by decide +kernel
theorem dX8_putLetters_22 : decode cX8_putLetters 22 = .ok (.iload_n 2, 1) := by decide +kernel
theorem dX8_putLetters_23 : decode cX8_putLetters 23 = .ok (.iload 4, 2) := by decide +kernel
theorem dX8_putLetters_25 : decode cX8_putLetters 25 = .ok (.iadd, 1) := by decide +kernel
theorem dX8_putLetters_26 : decode cX8_putLetters 26 = .ok (.iconst 1, 1) := by decide +kernel
theorem dX8_putLetters_27 : decode cX8_putLetters 27 = .ok (.isub, 1) := by decide +kernel
theorem dX8_putLetters_28 : decode cX8_putLetters 28 = .ok (.invokevirtual 28, 3) := by decide +kernel
theorem dX8_putLetters_31 : decode cX8_putLetters 31 = .ok (.iinc 3 (-1), 3) := by decide +kernel
theorem dX8_putLetters_34 : decode cX8_putLetters 34 = .ok (.goto (-32), 3) := by decide +kernel
theorem dX8_putLetters_37 : decode cX8_putLetters 37 = .ok (.return_, 1) := by decide +kernel
theorem dX8_put_0 : decode cX8_put 0 = .ok (.aload_n 0, 1) := by decide +kernel
theorem dX8_put_1 : decode cX8_put 1 = .ok (.getfield 15, 3) := by decide +kernel
theorem dX8_put_4 : decode cX8_put 4 = .ok (.bipush 64, 2) := by decide +kernel
theorem dX8_put_6 : decode cX8_put 6 = .ok (.if_icmp .ge 23, 3) := by decide +kernel
theorem dX8_put_9 : decode cX8_put 9 = .ok (.aload_n 0, 1) := by decide +kernel
theorem dX8_put_10 : decode cX8_put 10 = .ok (.getfield 9, 3) := by decide +kernel
theorem dX8_put_13 : decode cX8_put 13 = .ok (.aload_n 0, 1) := by decide +kernel
theorem dX8_put_14 : decode cX8_put 14 = .ok (.getfield 15, 3) := by decide +kernel
theorem dX8_put_17 : decode cX8_put 17 = .ok (.iload_n 1, 1) := by decide +kernel
theorem dX8_put_18 : decode cX8_put 18 = .ok (.iastore, 1) := by decide +kernel
theorem dX8_put_19 : decode cX8_put 19 = .ok (.aload_n 0, 1) := by decide +kernel
theorem dX8_put_20 : decode cX8_put 20 = .ok (.dup, 1) := by decide +kernel
theorem dX8_put_21 : decode cX8_put 21 = .ok (.getfield 15, 3) := by decide +kernel
theorem dX8_put_24 : decode cX8_put 24 = .ok (.iconst 1, 1) := by decide +kernel
theorem dX8_put_25 : decode cX8_put 25 = .ok (.iadd, 1) := by decide +kernel
theorem dX8_put_26 : decode cX8_put 26 = .ok (.putfield 15, 3) := by decide +kernel
theorem dX8_put_29 : decode cX8_put 29 = .ok (.return_, 1) := by decide +kernel
theorem dX9_init_0 : decode cX9_init 0 = .ok (.aload_n 0, 1) := by decide +kernel
theorem dX9_init_1 : decode cX9_init 1 = .ok (.invokespecial 1, 3) := by decide +kernel
theorem dX9_init_4 : decode cX9_init 4 = .ok (.aload_n 0, 1) := by decide +kernel
theorem dX9_init_5 : decode cX9_init 5 = .ok (.new 7, 3) := by decide +kernel
theorem dX9_init_8 : decode cX9_init 8 = .ok (.dup, 1) := by decide +kernel
theorem dX9_init_9 : decode cX9_init 9 = .ok (.invokespecial 9, 3) := by decide +kernel
theorem dX9_init_12 : decode cX9_init 12 = .ok (.putfield 10, 3) := by decide +kernel
theorem dX9_init_15 : decode cX9_init 15 = .ok (.aload_n 0, 1) := by decide +kernel
theorem dX9_init_16 : decode cX9_init 16 = .ok (.new 16, 3) := by decide +kernel
theorem dX9_init_19 : decode cX9_init 19 = .ok (.dup, 1) := by decide +kernel
theorem dX9_init_20 : decode cX9_init 20 = .ok (.invokespecial 18, 3) := by decide +kernel
theorem dX9_init_23 : decode cX9_init 23 = .ok (.putfield 19, 3) := by decide +kernel
theorem dX9_init_26 : decode cX9_init 26 = .ok (.aload_n 0, 1) := by decide +kernel
theorem dX9_init_27 : decode cX9_init 27 = .ok (.new 23, 3) := by decide +kernel
theorem dX9_init_30 : decode cX9_init 30 = .ok (.dup, 1) := by decide +kernel
theorem dX9_init_31 : decode cX9_init 31 = .ok (.invokespecial 25, 3) := by decide +kernel
theorem dX9_init_34 : decode cX9_init 34 = .ok (.putfield 26, 3) := by decide +kernel
theorem dX9_init_37 : decode cX9_init 37 = .ok (.aload_n 0, 1) := by decide +kernel
theorem dX9_init_38 : decode cX9_init 38 = .ok (.iconst 2, 1) := by decide +kernel
theorem dX9_init_39 : decode cX9_init 39 = .ok (.anewarray 16, 3) := by decide +kernel
theorem dX9_init_42 : decode cX9_init 42 = .ok (.putfield 30, 3) := by decide +kernel
theorem dX9_init_45 : decode cX9_init 45 = .ok (.aload_n 0, 1) := by decide +kernel
theorem dX9_init_46 : decode cX9_init 46 = .ok (.new 34, 3) := by decide +kernel
theorem dX9_init_49 : decode cX9_init 49 = .ok (.dup, 1) := by decide +kernel
theorem dX9_init_50 : decode cX9_init 50 = .ok (.invokespecial 36, 3) := by decide +kernel
theorem dX9_init_53 : decode cX9_init 53 = .ok (.putfield 37, 3) := by decide +kernel
theorem dX9_init_56 : decode cX9_init 56 = .ok (.aload_n 0, 1) := by decide +kernel
theorem dX9_init_57 : decode cX9_init 57 = .ok (.new 41, 3) := by decide +kernel
theorem dX9_init_60 : decode cX9_init 60 = .ok (.dup, 1) := by decide +kernel
theorem dX9_init_61 : decode cX9_init 61 = .ok (.invokespecial 43, 3) := by decide +kernel
theorem dX9_init_64 : decode cX9_init 64 = .ok (.putfield 44, 3) := by decide +kernel
theorem dX9_init_67 : decode cX9_init 67 = .ok (.return_, 1) := by decide +kernel
theorem dX9_say_0 : decode cX9_say 0 = .ok (.iload_n 1, 1) := by decide +kernel
theorem dX9_say_1 : decode cX9_say 1 = .ok (.bipush 33, 2) := by decide +kernel
theorem dX9_say_3 : decode cX9_say 3 = .ok (.if_icmp .lt 9, 3) := by decide +kernel
theorem dX9_say_6 : decode cX9_say 6 = .ok (.iload_n 1, 1) := by decide +kernel
theorem dX9_say_7 : decode cX9_say 7 = .ok (.bipush 126, 2) := by decide +kernel
theorem dX9_say_9 : decode cX9_say 9 = .ok (.if_icmp .le 6, 3) := by decide +kernel
theorem dX9_say_12 : decode cX9_say 12 = .ok (.bipush (-2), 2) := by decide +kernel
theorem dX9_say_14 : decode cX9_say 14 = .ok (.ireturn, 1) := by decide +kernel
theorem dX9_say_15 : decode cX9_say 15 = .ok (.aload_n 0, 1) := by decide +kernel
theorem dX9_say_16 : decode cX9_say 16 = .ok (.getfield 10, 3) := by decide +kernel
theorem dX9_say_19 : decode cX9_say 19 = .ok (.getfield 48, 3) := by decide +kernel
theorem dX9_say_22 : decode cX9_say 22 = .ok (.bipush 40, 2) := by decide +kernel
theorem dX9_say_24 : decode cX9_say 24 = .ok (.if_icmp .lt 6, 3) := by decide +kernel
theorem dX9_say_27 : decode cX9_say 27 = .ok (.bipush (-4), 2) := by decide +kernel
theorem dX9_say_29 : decode cX9_say 29 = .ok (.ireturn, 1) := by decide +kernel
theorem dX9_say_30 : decode cX9_say 30 = .ok (.aload_n 0, 1) := by decide +kernel
theorem dX9_say_31 : decode cX9_say 31 = .ok (.getfield 10, 3) := by decide +kernel
theorem dX9_say_34 : decode cX9_say 34 = .ok (.iload_n 1, 1) := by decide +kernel
theorem dX9_say_35 : decode cX9_say 35 = .ok (.invokevirtual 52, 3) := by decide +kernel
theorem dX9_say_38 : decode cX9_say 38 = .ok (.aload_n 0, 1) := by decide +kernel
theorem dX9_say_39 : decode cX9_say 39 = .ok (.getfield 10, 3) := by decide +kernel
theorem dX9_say_42 : decode cX9_say 42 = .ok (.getfield 48, 3) := by decide +kernel
theorem dX9_say_45 : decode cX9_say 45 = .ok (.ireturn, 1) := by decide +kernel
theorem dX9_wipe_0 : decode cX9_wipe 0 = .ok (.aload_n 0, 1) := by decide +kernel
theorem dX9_wipe_1 : decode cX9_wipe 1 = .ok (.getfield 10, 3) := by decide +kernel
theorem dX9_wipe_4 : decode cX9_wipe 4 = .ok (.getfield 48, 3) := by decide +kernel
theorem dX9_wipe_7 : decode cX9_wipe 7 = .ok (.istore_n 1, 1) := by decide +kernel
theorem dX9_wipe_8 : decode cX9_wipe 8 = .ok (.aload_n 0, 1) := by decide +kernel
theorem dX9_wipe_9 : decode cX9_wipe 9 = .ok (.getfield 10, 3) := by decide +kernel
theorem dX9_wipe_12 : decode cX9_wipe 12 = .ok (.invokevirtual 56, 3) := by decide +kernel
theorem dX9_wipe_15 : decode cX9_wipe 15 = .ok (.iload_n 1, 1) := by decide +kernel
theorem dX9_wipe_16 : decode cX9_wipe 16 = .ok (.ireturn, 1) := by decide +kernel
theorem dX9_fault_0 : decode cX9_fault 0 = .ok (.aload_n 0, 1) := by decide +kernel
theorem dX9_fault_1 : decode cX9_fault 1 = .ok (.getfield 10, 3) := by decide +kernel
theorem dX9_fault_4 : decode cX9_fault 4 = .ok (.aload_n 0, 1) := by decide +kernel
theorem dX9_fault_5 : decode cX9_fault 5 = .ok (.getfield 37, 3) := by decide +kernel
theorem dX9_fault_8 : decode cX9_fault 8 = .ok (.invokevirtual 59, 3) := by decide +kernel
theorem dX9_fault_11 : decode cX9_fault 11 = .ok (.ireturn, 1) := by decide +kernel
theorem dX9_name_0 : decode cX9_name 0 = .ok (.iload_n 1, 1) := by decide +kernel
theorem dX9_name_1 : decode cX9_name 1 = .ok (.invokestatic 63, 3) := by decide +kernel
theorem dX9_name_4 : decode cX9_name 4 = .ok (.ifCond .ne 5, 3) := by decide +kernel
theorem dX9_name_7 : decode cX9_name 7 = .ok (.iconst (-1), 1) := by decide +kernel
theorem dX9_name_8 : decode cX9_name 8 = .ok (.ireturn, 1) := by decide +kernel
theorem dX9_name_9 : decode cX9_name 9 = .ok (.iload_n 2, 1) := by decide +kernel
theorem dX9_name_10 : decode cX9_name 10 = .ok (.ifCond .lt 8, 3) := by decide +kernel
theorem dX9_name_13 : decode cX9_name 13 = .ok (.iload_n 2, 1) := by decide +kernel
theorem dX9_name_14 : decode cX9_name 14 = .ok (.iconst 2, 1) := by decide +kernel
theorem dX9_name_15 : decode cX9_name 15 = .ok (.if_icmp .le 6, 3) := by decide +kernel
theorem dX9_name_18 : decode cX9_name 18 = .ok (.bipush (-2), 2) := by decide +kernel
theorem dX9_name_20 : decode cX9_name 20 = .ok (.ireturn, 1) := by decide +kernel
theorem dX9_name_21 : decode cX9_name 21 = .ok (.aload_n 0, 1) := by decide +kernel
theorem dX9_name_22 : decode cX9_name 22 = .ok (.getfield 10, 3) := by decide +kernel
theorem dX9_name_25 : decode cX9_name 25 = .ok (.invokevirtual 67, 3) := by decide +kernel
theorem dX9_name_28 : decode cX9_name 28 = .ok (.istore_n 3, 1) := by decide +kernel
theorem dX9_name_29 : decode cX9_name 29 = .ok (.iload_n 3, 1) := by decide +kernel
theorem dX9_name_30 : decode cX9_name 30 = .ok (.ifCond .ne 6, 3) := by decide +kernel
theorem dX9_name_33 : decode cX9_name 33 = .ok (.bipush (-7), 2) := by decide +kernel
theorem dX9_name_35 : decode cX9_name 35 = .ok (.ireturn, 1) := by decide +kernel
theorem dX9_name_36 : decode cX9_name 36 = .ok (.aload_n 0, 1) := by decide +kernel
theorem dX9_name_37 : decode cX9_name 37 = .ok (.getfield 19, 3) := by decide +kernel
theorem dX9_name_40 : decode cX9_name 40 = .ok (.getfield 71, 3) := by decide +kernel
theorem dX9_name_43 : decode cX9_name 43 = .ok (.iload_n 1, 1) := by decide +kernel
theorem dX9_name_44 : decode cX9_name 44 = .ok (.aaload, 1) := by decide +kernel
theorem dX9_name_45 : decode cX9_name 45 = .ok (.astore 4, 2) := by decide +kernel
theorem dX9_name_47 : decode cX9_name 47 = .ok (.iload_n 2, 1) := by decide +kernel
theorem dX9_name_48 : decode cX9_name 48 = .ok (.ifCond .ne 44, 3) := by decide +kernel
theorem dX9_name_51 : decode cX9_name 51 = .ok (.aload_n 0, 1) := by decide +kernel
theorem dX9_name_52 : decode cX9_name 52 = .ok (.getfield 19, 3) := by decide +kernel
theorem dX9_name_55 : decode cX9_name 55 = .ok (.iload_n 3, 1) := by decide +kernel
theorem dX9_name_56 : decode cX9_name 56 = .ok (.invokevirtual 75, 3) := by decide +kernel
theorem dX9_name_59 : decode cX9_name 59 = .ok (.istore 5, 2) := by decide +kernel
theorem dX9_name_61 : decode cX9_name 61 = .ok (.iload 5, 2) := by decide +kernel
theorem dX9_name_63 : decode cX9_name 63 = .ok (.bipush (-6), 2) := by decide +kernel
theorem dX9_name_65 : decode cX9_name 65 = .ok (.if_icmp .eq 12, 3) := by decide +kernel
theorem dX9_name_68 : decode cX9_name 68 = .ok (.iload 5, 2) := by decide +kernel
theorem dX9_name_70 : decode cX9_name 70 = .ok (.iload_n 1, 1) := by decide +kernel
theorem dX9_name_71 : decode cX9_name 71 = .ok (.if_icmp .eq 6, 3) := by decide +kernel
theorem dX9_name_74 : decode cX9_name 74 = .ok (.bipush (-3), 2) := by decide +kernel
theorem dX9_name_76 : decode cX9_name 76 = .ok (.ireturn, 1) := by decide +kernel
theorem dX9_name_77 : decode cX9_name 77 = .ok (.aload 4, 2) := by decide +kernel
theorem dX9_name_79 : decode cX9_name 79 = .ok (.iload_n 3, 1) := by decide +kernel
theorem dX9_name_80 : decode cX9_name 80 = .ok (.putfield 79, 3) := by decide +kernel
theorem dX9_name_83 : decode cX9_name 83 = .ok (.aload_n 0, 1) := by decide +kernel
theorem dX9_name_84 : decode cX9_name 84 = .ok (.getfield 10, 3) := by decide +kernel
theorem dX9_name_87 : decode cX9_name 87 = .ok (.invokevirtual 56, 3) := by decide +kernel
theorem dX9_name_90 : decode cX9_name 90 = .ok (.iconst 1, 1) := by decide +kernel
theorem dX9_name_91 : decode cX9_name 91 = .ok (.ireturn, 1) := by decide +kernel
theorem dX9_name_92 : decode cX9_name 92 = .ok (.iload_n 2, 1) := by decide +kernel
theorem dX9_name_93 : decode cX9_name 93 = .ok (.iconst 1, 1) := by decide +kernel
theorem dX9_name_94 : decode cX9_name 94 = .ok (.if_icmp .ne 11, 3) := by decide +kernel
theorem dX9_name_97 : decode cX9_name 97 = .ok (.aload 4, 2) := by decide +kernel
theorem dX9_name_99 : decode cX9_name 99 = .ok (.getfield 84, 3) := by decide +kernel
theorem dX9_name_102 : decode cX9_name 102 = .ok (.goto 8, 3) := by decide +kernel
theorem dX9_name_105 : decode cX9_name 105 = .ok (.aload 4, 2) := by decide +kernel
theorem dX9_name_107 : decode cX9_name 107 = .ok (.getfield 88, 3) := by decide +kernel
theorem dX9_name_110 : decode cX9_name 110 = .ok (.astore 5, 2) := by decide +kernel
theorem dX9_name_112 : decode cX9_name 112 = .ok (.aload 5, 2) := by decide +kernel
theorem dX9_name_114 : decode cX9_name 114 = .ok (.getfield 91, 3) := by decide +kernel
theorem dX9_name_117 : decode cX9_name 117 = .ok (.iconst 2, 1) := by decide +kernel
theorem dX9_name_118 : decode cX9_name 118 = .ok (.if_icmp .lt 6, 3) := by decide +kernel
theorem dX9_name_121 : decode cX9_name 121 = .ok (.bipush (-4), 2) := by decide +kernel
theorem dX9_name_123 : decode cX9_name 123 = .ok (.ireturn, 1) := by decide +kernel
theorem dX9_name_124 : decode cX9_name 124 = .ok (.aload 5, 2) := by decide +kernel
theorem dX9_name_126 : decode cX9_name 126 = .ok (.iload_n 3, 1) := by decide +kernel
theorem dX9_name_127 : decode cX9_name 127 = .ok (.invokevirtual 94, 3) := by decide +kernel
theorem dX9_name_130 : decode cX9_name 130 = .ok (.aload_n 0, 1) := by decide +kernel
theorem dX9_name_131 : decode cX9_name 131 = .ok (.getfield 10, 3) := by decide +kernel
theorem dX9_name_134 : decode cX9_name 134 = .ok (.invokevirtual 56, 3) := by decide +kernel
theorem dX9_name_137 : decode cX9_name 137 = .ok (.aload 5, 2) := by decide +kernel
theorem dX9_name_139 : decode cX9_name 139 = .ok (.getfield 91, 3) := by decide +kernel
theorem dX9_name_142 : decode cX9_name 142 = .ok (.ireturn, 1) := by decide +kernel
theorem dX9_forget_0 : decode cX9_forget 0 = .ok (.iload_n 1, 1) := by decide +kernel
theorem dX9_forget_1 : decode cX9_forget 1 = .ok (.invokestatic 63, 3) := by decide +kernel
theorem dX9_forget_4 : decode cX9_forget 4 = .ok (.ifCond .ne 5, 3) := by decide +kernel
theorem dX9_forget_7 : decode cX9_forget 7 = .ok (.iconst (-1), 1) := by decide +kernel
theorem dX9_forget_8 : decode cX9_forget 8 = .ok (.ireturn, 1) := by decide +kernel
theorem dX9_forget_9 : decode cX9_forget 9 = .ok (.iload_n 2, 1) := by decide +kernel
theorem dX9_forget_10 : decode cX9_forget 10 = .ok (.iconst 1, 1) := by decide +kernel
theorem dX9_forget_11 : decode cX9_forget 11 = .ok (.if_icmp .lt 8, 3) := by decide +kernel
theorem dX9_forget_14 : decode cX9_forget 14 = .ok (.iload_n 2, 1) := by decide +kernel
theorem dX9_forget_15 : decode cX9_forget 15 = .ok (.iconst 2, 1) := by decide +kernel
theorem dX9_forget_16 : decode cX9_forget 16 = .ok (.if_icmp .le 6, 3) := by decide +kernel
theorem dX9_forget_19 : decode cX9_forget 19 = .ok (.bipush (-2), 2) := by decide +kernel
theorem dX9_forget_21 : decode cX9_forget 21 = .ok (.ireturn, 1) := by decide +kernel
theorem dX9_forget_22 : decode cX9_forget 22 = .ok (.aload_n 0, 1) := by decide +kernel
theorem dX9_forget_23 : decode cX9_forget 23 = .ok (.getfield 19, 3) := by decide +kernel
theorem dX9_forget_26 : decode cX9_forget 26 = .ok (.getfield 71, 3) := by decide +kernel
theorem dX9_forget_29 : decode cX9_forget 29 = .ok (.iload_n 1, 1) := by decide +kernel
theorem dX9_forget_30 : decode cX9_forget 30 = .ok (.aaload, 1) := by decide +kernel
theorem dX9_forget_31 : decode cX9_forget 31 = .ok (.astore_n 3, 1) := by decide +kernel
theorem dX9_forget_32 : decode cX9_forget 32 = .ok (.iload_n 2, 1) := by decide +kernel
theorem dX9_forget_33 : decode cX9_forget 33 = .ok (.iconst 1, 1) := by decide +kernel
theorem dX9_forget_34 : decode cX9_forget 34 = .ok (.if_icmp .ne 10, 3) := by decide +kernel
theorem dX9_forget_37 : decode cX9_forget 37 = .ok (.aload_n 3, 1) := by decide +kernel
theorem dX9_forget_38 : decode cX9_forget 38 = .ok (.getfield 84, 3) := by decide +kernel
theorem dX9_forget_41 : decode cX9_forget 41 = .ok (.goto 7, 3) := by decide +kernel
theorem dX9_forget_44 : decode cX9_forget 44 = .ok (.aload_n 3, 1) := by decide +kernel
theorem dX9_forget_45 : decode cX9_forget 45 = .ok (.getfield 88, 3) := by decide +kernel
theorem dX9_forget_48 : decode cX9_forget 48 = .ok (.astore 4, 2) := by decide +kernel
theorem dX9_forget_50 : decode cX9_forget 50 = .ok (.aload 4, 2) := by decide +kernel
theorem dX9_forget_52 : decode cX9_forget 52 = .ok (.getfield 91, 3) := by decide +kernel
theorem dX9_forget_55 : decode cX9_forget 55 = .ok (.istore 5, 2) := by decide +kernel
theorem dX9_forget_57 : decode cX9_forget 57 = .ok (.aload 4, 2) := by decide +kernel
theorem dX9_forget_59 : decode cX9_forget 59 = .ok (.invokevirtual 95, 3) := by decide +kernel
theorem dX9_forget_62 : decode cX9_forget 62 = .ok (.iload 5, 2) := by decide +kernel
theorem dX9_forget_64 : decode cX9_forget 64 = .ok (.ireturn, 1) := by decide +kernel
theorem dX9_set_0 : decode cX9_set 0 = .ok (.iload_n 1, 1) := by decide +kernel
theorem dX9_set_1 : decode cX9_set 1 = .ok (.invokestatic 63, 3) := by decide +kernel
theorem dX9_set_4 : decode cX9_set 4 = .ok (.ifCond .ne 5, 3) := by decide +kernel
theorem dX9_set_7 : decode cX9_set 7 = .ok (.iconst (-1), 1) := by decide +kernel
theorem dX9_set_8 : decode cX9_set 8 = .ok (.ireturn, 1) := by decide +kernel
theorem dX9_set_9 : decode cX9_set 9 = .ok (.iload_n 2, 1) := by decide +kernel
theorem dX9_set_10 : decode cX9_set 10 = .ok (.iload_n 3, 1) := by decide +kernel
theorem dX9_set_11 : decode cX9_set 11 = .ok (.invokestatic 96, 3) := by decide +kernel
theorem dX9_set_14 : decode cX9_set 14 = .ok (.ifCond .ne 6, 3) := by decide +kernel
theorem dX9_set_17 : decode cX9_set 17 = .ok (.bipush (-2), 2) := by decide +kernel
theorem dX9_set_19 : decode cX9_set 19 = .ok (.ireturn, 1) := by decide +kernel
theorem dX9_set_20 : decode cX9_set 20 = .ok (.aload_n 0, 1) := by decide +kernel
theorem dX9_set_21 : decode cX9_set 21 = .ok (.getfield 19, 3) := by decide +kernel
theorem dX9_set_24 : decode cX9_set 24 = .ok (.getfield 71, 3) := by decide +kernel
theorem dX9_set_27 : decode cX9_set 27 = .ok (.iload_n 1, 1) := by decide +kernel
theorem dX9_set_28 : decode cX9_set 28 = .ok (.aaload, 1) := by decide +kernel
theorem dX9_set_29 : decode cX9_set 29 = .ok (.astore 4, 2) := by decide +kernel
theorem dX9_set_31 : decode cX9_set 31 = .ok (.iload_n 2, 1) := by decide +kernel
theorem dX9_set_32 : decode cX9_set 32 = .ok (.ifCond .ne 19, 3) := by decide +kernel
theorem dX9_set_35 : decode cX9_set 35 = .ok (.aload 4, 2) := by decide +kernel
theorem dX9_set_37 : decode cX9_set 37 = .ok (.getfield 100, 3) := by decide +kernel
theorem dX9_set_40 : decode cX9_set 40 = .ok (.istore 5, 2) := by decide +kernel
theorem dX9_set_42 : decode cX9_set 42 = .ok (.aload 4, 2) := by decide +kernel
theorem dX9_set_44 : decode cX9_set 44 = .ok (.iload_n 3, 1) := by decide +kernel
theorem dX9_set_45 : decode cX9_set 45 = .ok (.putfield 100, 3) := by decide +kernel
theorem dX9_set_48 : decode cX9_set 48 = .ok (.goto 37, 3) := by decide +kernel
theorem dX9_set_51 : decode cX9_set 51 = .ok (.iload_n 2, 1) := by decide +kernel
theorem dX9_set_52 : decode cX9_set 52 = .ok (.iconst 1, 1) := by decide +kernel
theorem dX9_set_53 : decode cX9_set 53 = .ok (.if_icmp .ne 19, 3) := by decide +kernel
theorem dX9_set_56 : decode cX9_set 56 = .ok (.aload 4, 2) := by decide +kernel
theorem dX9_set_58 : decode cX9_set 58 = .ok (.getfield 103, 3) := by decide +kernel
theorem dX9_set_61 : decode cX9_set 61 = .ok (.istore 5, 2) := by decide +kernel
theorem dX9_set_63 : decode cX9_set 63 = .ok (.aload 4, 2) := by decide +kernel
theorem dX9_set_65 : decode cX9_set 65 = .ok (.iload_n 3, 1) := by decide +kernel
theorem dX9_set_66 : decode cX9_set 66 = .ok (.putfield 103, 3) := by decide +kernel
theorem dX9_set_69 : decode cX9_set 69 = .ok (.goto 16, 3) := by decide +kernel
theorem dX9_set_72 : decode cX9_set 72 = .ok (.aload 4, 2) := by decide +kernel
theorem dX9_set_74 : decode cX9_set 74 = .ok (.getfield 106, 3) := by decide +kernel
theorem dX9_set_77 : decode cX9_set 77 = .ok (.istore 5, 2) := by decide +kernel
theorem dX9_set_79 : decode cX9_set 79 = .ok (.aload 4, 2) := by decide +kernel
theorem dX9_set_81 : decode cX9_set 81 = .ok (.iload_n 3, 1) := by decide +kernel
theorem dX9_set_82 : decode cX9_set 82 = .ok (.putfield 106, 3) := by decide +kernel
theorem dX9_set_85 : decode cX9_set 85 = .ok (.iload 5, 2) := by decide +kernel
theorem dX9_set_87 : decode cX9_set 87 = .ok (.ireturn, 1) := by decide +kernel
theorem dX9_near_0 : decode cX9_near 0 = .ok (.iload_n 1, 1) := by decide +kernel
theorem dX9_near_1 : decode cX9_near 1 = .ok (.invokestatic 63, 3) := by decide +kernel
theorem dX9_near_4 : decode cX9_near 4 = .ok (.ifCond .eq 10, 3) := by decide +kernel
theorem dX9_near_7 : decode cX9_near 7 = .ok (.iload_n 2, 1) := by decide +kernel
theorem dX9_near_8 : decode cX9_near 8 = .ok (.invokestatic 63, 3) := by decide +kernel
theorem dX9_near_11 : decode cX9_near 11 = .ok (.ifCond .ne 5, 3) := by decide +kernel
theorem dX9_near_14 : decode cX9_near 14 = .ok (.iconst (-1), 1) := by decide +kernel
theorem dX9_near_15 : decode cX9_near 15 = .ok (.ireturn, 1) := by decide +kernel
theorem dX9_near_16 : decode cX9_near 16 = .ok (.iload_n 3, 1) := by decide +kernel
theorem dX9_near_17 : decode cX9_near 17 = .ok (.ifCond .lt 13, 3) := by decide +kernel
theorem dX9_near_20 : decode cX9_near 20 = .ok (.iload_n 3, 1) := by decide +kernel
theorem dX9_near_21 : decode cX9_near 21 = .ok (.iconst 1, 1) := by decide +kernel
theorem dX9_near_22 : decode cX9_near 22 = .ok (.if_icmp .gt 8, 3) := by decide +kernel
theorem dX9_near_25 : decode cX9_near 25 = .ok (.iload_n 1, 1) := by decide +kernel
theorem dX9_near_26 : decode cX9_near 26 = .ok (.iload_n 2, 1) := by decide +kernel
theorem dX9_near_27 : decode cX9_near 27 = .ok (.if_icmp .ne 6, 3) := by decide +kernel
theorem dX9_near_30 : decode cX9_near 30 = .ok (.bipush (-2), 2) := by decide +kernel
theorem dX9_near_32 : decode cX9_near 32 = .ok (.ireturn, 1) := by decide +kernel
theorem dX9_near_33 : decode cX9_near 33 = .ok (.aload_n 0, 1) := by decide +kernel
theorem dX9_near_34 : decode cX9_near 34 = .ok (.getfield 19, 3) := by decide +kernel
theorem dX9_near_37 : decode cX9_near 37 = .ok (.iload_n 1, 1) := by decide +kernel
theorem dX9_near_38 : decode cX9_near 38 = .ok (.iload_n 2, 1) := by decide +kernel
theorem dX9_near_39 : decode cX9_near 39 = .ok (.iload_n 3, 1) := by decide +kernel
theorem dX9_near_40 : decode cX9_near 40 = .ok (.iconst 1, 1) := by decide +kernel
theorem dX9_near_41 : decode cX9_near 41 = .ok (.if_icmp .ne 7, 3) := by decide +kernel
theorem dX9_near_44 : decode cX9_near 44 = .ok (.iconst 1, 1) := by decide +kernel
theorem dX9_near_45 : decode cX9_near 45 = .ok (.goto 4, 3) := by decide +kernel
theorem dX9_near_48 : decode cX9_near 48 = .ok (.iconst 0, 1) := by decide +kernel
theorem dX9_near_49 : decode cX9_near 49 = .ok (.invokevirtual 109, 3) := by decide +kernel
theorem dX9_near_52 : decode cX9_near 52 = .ok (.aload_n 0, 1) := by decide +kernel
theorem dX9_near_53 : decode cX9_near 53 = .ok (.getfield 19, 3) := by decide +kernel
theorem dX9_near_56 : decode cX9_near 56 = .ok (.getfield 113, 3) := by decide +kernel
theorem dX9_near_59 : decode cX9_near 59 = .ok (.iload_n 1, 1) := by decide +kernel
theorem dX9_near_60 : decode cX9_near 60 = .ok (.iaload, 1) := by decide +kernel
theorem dX9_near_61 : decode cX9_near 61 = .ok (.invokestatic 117, 3) := by decide +kernel
theorem dX9_near_64 : decode cX9_near 64 = .ok (.ireturn, 1) := by decide +kernel
theorem dX9_send_0 : decode cX9_send 0 = .ok (.iload_n 1, 1) := by decide +kernel
theorem dX9_send_1 : decode cX9_send 1 = .ok (.invokestatic 63, 3) := by decide +kernel
theorem dX9_send_4 : decode cX9_send 4 = .ok (.ifCond .ne 5, 3) := by decide +kernel
theorem dX9_send_7 : decode cX9_send 7 = .ok (.iconst (-1), 1) := by decide +kernel
theorem dX9_send_8 : decode cX9_send 8 = .ok (.ireturn, 1) := by decide +kernel
theorem dX9_send_9 : decode cX9_send 9 = .ok (.aload_n 0, 1) := by decide +kernel
theorem dX9_send_10 : decode cX9_send 10 = .ok (.getfield 10, 3) := by decide +kernel
theorem dX9_send_13 : decode cX9_send 13 = .ok (.aload_n 0, 1) := by decide +kernel
theorem dX9_send_14 : decode cX9_send 14 = .ok (.getfield 37, 3) := by decide +kernel
theorem dX9_send_17 : decode cX9_send 17 = .ok (.invokevirtual 59, 3) := by decide +kernel
theorem dX9_send_20 : decode cX9_send 20 = .ok (.bipush (-6), 2) := by decide +kernel
theorem dX9_send_22 : decode cX9_send 22 = .ok (.if_icmp .eq 6, 3) := by decide +kernel
theorem dX9_send_25 : decode cX9_send 25 = .ok (.bipush (-7), 2) := by decide +kernel
theorem dX9_send_27 : decode cX9_send 27 = .ok (.ireturn, 1) := by decide +kernel
theorem dX9_send_28 : decode cX9_send 28 = .ok (.aload_n 0, 1) := by decide +kernel
theorem dX9_send_29 : decode cX9_send 29 = .ok (.getfield 19, 3) := by decide +kernel
theorem dX9_send_32 : decode cX9_send 32 = .ok (.getfield 71, 3) := by decide +kernel
theorem dX9_send_35 : decode cX9_send 35 = .ok (.iload_n 1, 1) := by decide +kernel
theorem dX9_send_36 : decode cX9_send 36 = .ok (.aaload, 1) := by decide +kernel
theorem dX9_send_37 : decode cX9_send 37 = .ok (.astore_n 2, 1) := by decide +kernel
theorem dX9_send_38 : decode cX9_send 38 = .ok (.aload_n 2, 1) := by decide +kernel
theorem dX9_send_39 : decode cX9_send 39 = .ok (.getfield 122, 3) := by decide +kernel
theorem dX9_send_42 : decode cX9_send 42 = .ok (.getfield 126, 3) := by decide +kernel
theorem dX9_send_45 : decode cX9_send 45 = .ok (.bipush 12, 2) := by decide +kernel
theorem dX9_send_47 : decode cX9_send 47 = .ok (.if_icmp .lt 6, 3) := by decide +kernel
theorem dX9_send_50 : decode cX9_send 50 = .ok (.bipush (-4), 2) := by decide +kernel
theorem dX9_send_52 : decode cX9_send 52 = .ok (.ireturn, 1) := by decide +kernel
theorem dX9_send_53 : decode cX9_send 53 = .ok (.aload_n 2, 1) := by decide +kernel
theorem dX9_send_54 : decode cX9_send 54 = .ok (.aload_n 0, 1) := by decide +kernel
theorem dX9_send_55 : decode cX9_send 55 = .ok (.getfield 37, 3) := by decide +kernel
theorem dX9_send_58 : decode cX9_send 58 = .ok (.aload_n 0, 1) := by decide +kernel
theorem dX9_send_59 : decode cX9_send 59 = .ok (.getfield 19, 3) := by decide +kernel
theorem dX9_send_62 : decode cX9_send 62 = .ok (.getfield 129, 3) := by decide +kernel
theorem dX9_send_65 : decode cX9_send 65 = .ok (.invokevirtual 132, 3) := by decide +kernel
theorem dX9_send_68 : decode cX9_send 68 = .ok (.aload_n 0, 1) := by decide +kernel
theorem dX9_send_69 : decode cX9_send 69 = .ok (.getfield 10, 3) := by decide +kernel
theorem dX9_send_72 : decode cX9_send 72 = .ok (.invokevirtual 56, 3) := by decide +kernel
theorem dX9_send_75 : decode cX9_send 75 = .ok (.aload_n 2, 1) := by decide +kernel
theorem dX9_send_76 : decode cX9_send 76 = .ok (.getfield 122, 3) := by decide +kernel
theorem dX9_send_79 : decode cX9_send 79 = .ok (.getfield 126, 3) := by decide +kernel
theorem dX9_send_82 : decode cX9_send 82 = .ok (.ireturn, 1) := by decide +kernel
theorem dX9_run_0 : decode cX9_run 0 = .ok (.iload_n 1, 1) := by decide +kernel
theorem dX9_run_1 : decode cX9_run 1 = .ok (.iconst 1, 1) := by decide +kernel
theorem dX9_run_2 : decode cX9_run 2 = .ok (.if_icmp .lt 9, 3) := by decide +kernel
theorem dX9_run_5 : decode cX9_run 5 = .ok (.iload_n 1, 1) := by decide +kernel
theorem dX9_run_6 : decode cX9_run 6 = .ok (.bipush 50, 2) := by decide +kernel
theorem dX9_run_8 : decode cX9_run 8 = .ok (.if_icmp .le 6, 3) := by decide +kernel
theorem dX9_run_11 : decode cX9_run 11 = .ok (.bipush (-2), 2) := by decide +kernel
theorem dX9_run_13 : decode cX9_run 13 = .ok (.ireturn, 1) := by decide +kernel
theorem dX9_run_14 : decode cX9_run 14 = .ok (.iconst 0, 1) := by decide +kernel
theorem dX9_run_15 : decode cX9_run 15 = .ok (.istore_n 2, 1) := by decide +kernel
theorem dX9_run_16 : decode cX9_run 16 = .ok (.iload_n 2, 1) := by decide +kernel
theorem dX9_run_17 : decode cX9_run 17 = .ok (.iload_n 1, 1) := by decide +kernel
theorem dX9_run_18 : decode cX9_run 18 = .ok (.if_icmp .ge 16, 3) := by decide +kernel
theorem dX9_run_21 : decode cX9_run 21 = .ok (.aload_n 0, 1) := by decide +kernel
theorem dX9_run_22 : decode cX9_run 22 = .ok (.getfield 19, 3) := by decide +kernel
theorem dX9_run_25 : decode cX9_run 25 = .ok (.invokevirtual 136, 3) := by decide +kernel
theorem dX9_run_28 : decode cX9_run 28 = .ok (.iinc 2 1, 3) := by decide +kernel
theorem dX9_run_31 : decode cX9_run 31 = .ok (.goto (-15), 3) := by decide +kernel
theorem dX9_run_34 : decode cX9_run 34 = .ok (.aload_n 0, 1) := by decide +kernel
theorem dX9_run_35 : decode cX9_run 35 = .ok (.getfield 19, 3) := by decide +kernel
theorem dX9_run_38 : decode cX9_run 38 = .ok (.invokevirtual 139, 3) := by decide +kernel
theorem dX9_run_41 : decode cX9_run 41 = .ok (.ireturn, 1) := by decide +kernel
theorem dX9_heard_0 : decode cX9_heard 0 = .ok (.iload_n 1, 1) := by decide +kernel
theorem dX9_heard_1 : decode cX9_heard 1 = .ok (.invokestatic 63, 3) := by decide +kernel
theorem dX9_heard_4 : decode cX9_heard 4 = .ok (.ifCond .ne 5, 3) := by decide +kernel
theorem dX9_heard_7 : decode cX9_heard 7 = .ok (.iconst (-1), 1) := by decide +kernel
theorem dX9_heard_8 : decode cX9_heard 8 = .ok (.ireturn, 1) := by decide +kernel
theorem dX9_heard_9 : decode cX9_heard 9 = .ok (.iload_n 2, 1) := by decide +kernel
theorem dX9_heard_10 : decode cX9_heard 10 = .ok (.ifCond .lt 9, 3) := by decide +kernel
theorem dX9_heard_13 : decode cX9_heard 13 = .ok (.iload_n 2, 1) := by decide +kernel
theorem dX9_heard_14 : decode cX9_heard 14 = .ok (.bipush 10, 2) := by decide +kernel
theorem dX9_heard_16 : decode cX9_heard 16 = .ok (.if_icmp .le 6, 3) := by decide +kernel
theorem dX9_heard_19 : decode cX9_heard 19 = .ok (.bipush (-2), 2) := by decide +kernel
theorem dX9_heard_21 : decode cX9_heard 21 = .ok (.ireturn, 1) := by decide +kernel
theorem dX9_heard_22 : decode cX9_heard 22 = .ok (.aload_n 0, 1) := by decide +kernel
theorem dX9_heard_23 : decode cX9_heard 23 = .ok (.getfield 19, 3) := by decide +kernel
theorem dX9_heard_26 : decode cX9_heard 26 = .ok (.getfield 71, 3) := by decide +kernel
theorem dX9_heard_29 : decode cX9_heard 29 = .ok (.iload_n 1, 1) := by decide +kernel
theorem dX9_heard_30 : decode cX9_heard 30 = .ok (.aaload, 1) := by decide +kernel
theorem dX9_heard_31 : decode cX9_heard 31 = .ok (.astore_n 3, 1) := by decide +kernel
theorem dX9_heard_32 : decode cX9_heard 32 = .ok (.iload_n 2, 1) := by decide +kernel
theorem dX9_heard_33 : decode cX9_heard 33 = .ok (.bipush 9, 2) := by decide +kernel
theorem dX9_heard_35 : decode cX9_heard 35 = .ok (.if_icmp .ge 10, 3) := by decide +kernel
theorem dX9_heard_38 : decode cX9_heard 38 = .ok (.aload_n 3, 1) := by decide +kernel
theorem dX9_heard_39 : decode cX9_heard 39 = .ok (.getfield 142, 3) := by decide +kernel
theorem dX9_heard_42 : decode cX9_heard 42 = .ok (.iload_n 2, 1) := by decide +kernel
theorem dX9_heard_43 : decode cX9_heard 43 = .ok (.iaload, 1) := by decide +kernel
theorem dX9_heard_44 : decode cX9_heard 44 = .ok (.ireturn, 1) := by decide +kernel
theorem dX9_heard_45 : decode cX9_heard 45 = .ok (.iload_n 2, 1) := by decide +kernel
theorem dX9_heard_46 : decode cX9_heard 46 = .ok (.bipush 9, 2) := by decide +kernel
theorem dX9_heard_48 : decode cX9_heard 48 = .ok (.if_icmp .ne 13, 3) := by decide +kernel
theorem dX9_heard_51 : decode cX9_heard 51 = .ok (.aload_n 3, 1) := by decide +kernel
theorem dX9_heard_52 : decode cX9_heard 52 = .ok (.getfield 122, 3) := by decide +kernel
theorem dX9_heard_55 : decode cX9_heard 55 = .ok (.getfield 126, 3) := by decide +kernel
theorem dX9_heard_58 : decode cX9_heard 58 = .ok (.goto 10, 3) := by decide +kernel
theorem dX9_heard_61 : decode cX9_heard 61 = .ok (.aload_n 3, 1) := by decide +kernel
theorem dX9_heard_62 : decode cX9_heard 62 = .ok (.getfield 145, 3) := by decide +kernel
theorem dX9_heard_65 : decode cX9_heard 65 = .ok (.getfield 149, 3) := by decide +kernel
theorem dX9_heard_68 : decode cX9_heard 68 = .ok (.ireturn, 1) := by decide +kernel
theorem dX9_written_0 : decode cX9_written 0 = .ok (.iload_n 1, 1) := by decide +kernel
theorem dX9_written_1 : decode cX9_written 1 = .ok (.invokestatic 63, 3) := by decide +kernel
theorem dX9_written_4 : decode cX9_written 4 = .ok (.ifCond .ne 5, 3) := by decide +kernel
theorem dX9_written_7 : decode cX9_written 7 = .ok (.iconst (-1), 1) := by decide +kernel
theorem dX9_written_8 : decode cX9_written 8 = .ok (.ireturn, 1) := by decide +kernel
theorem dX9_written_9 : decode cX9_written 9 = .ok (.iload_n 2, 1) := by decide +kernel
theorem dX9_written_10 : decode cX9_written 10 = .ok (.iconst (-1), 1) := by decide +kernel
theorem dX9_written_11 : decode cX9_written 11 = .ok (.if_icmp .ge 6, 3) := by decide +kernel
theorem dX9_written_14 : decode cX9_written 14 = .ok (.bipush (-2), 2) := by decide +kernel
theorem dX9_written_16 : decode cX9_written 16 = .ok (.ireturn, 1) := by decide +kernel
theorem dX9_written_17 : decode cX9_written 17 = .ok (.aload_n 0, 1) := by decide +kernel
theorem dX9_written_18 : decode cX9_written 18 = .ok (.getfield 19, 3) := by decide +kernel
theorem dX9_written_21 : decode cX9_written 21 = .ok (.getfield 71, 3) := by decide +kernel
theorem dX9_written_24 : decode cX9_written 24 = .ok (.iload_n 1, 1) := by decide +kernel
theorem dX9_written_25 : decode cX9_written 25 = .ok (.aaload, 1) := by decide +kernel
theorem dX9_written_26 : decode cX9_written 26 = .ok (.astore_n 3, 1) := by decide +kernel
theorem dX9_written_27 : decode cX9_written 27 = .ok (.aload_n 3, 1) := by decide +kernel
theorem dX9_written_28 : decode cX9_written 28 = .ok (.invokevirtual 152, 3) := by decide +kernel
theorem dX9_written_31 : decode cX9_written 31 = .ok (.ifCond .ne 6, 3) := by decide +kernel
theorem dX9_written_34 : decode cX9_written 34 = .ok (.bipush (-3), 2) := by decide +kernel
theorem dX9_written_36 : decode cX9_written 36 = .ok (.ireturn, 1) := by decide +kernel
theorem dX9_written_37 : decode cX9_written 37 = .ok (.aload_n 0, 1) := by decide +kernel
theorem dX9_written_38 : decode cX9_written 38 = .ok (.getfield 44, 3) := by decide +kernel
theorem dX9_written_41 : decode cX9_written 41 = .ok (.aload_n 3, 1) := by decide +kernel
theorem dX9_written_42 : decode cX9_written 42 = .ok (.getfield 156, 3) := by decide +kernel
theorem dX9_written_45 : decode cX9_written 45 = .ok (.invokevirtual 159, 3) := by decide +kernel
theorem dX9_written_48 : decode cX9_written 48 = .ok (.iload_n 2, 1) := by decide +kernel
theorem dX9_written_49 : decode cX9_written 49 = .ok (.iconst (-1), 1) := by decide +kernel
theorem dX9_written_50 : decode cX9_written 50 = .ok (.if_icmp .ne 13, 3) := by decide +kernel
theorem dX9_written_53 : decode cX9_written 53 = .ok (.aload_n 0, 1) := by decide +kernel
theorem dX9_written_54 : decode cX9_written 54 = .ok (.getfield 44, 3) := by decide +kernel
theorem dX9_written_57 : decode cX9_written 57 = .ok (.getfield 163, 3) := by decide +kernel
theorem dX9_written_60 : decode cX9_written 60 = .ok (.goto 11, 3) := by decide +kernel
theorem dX9_written_63 : decode cX9_written 63 = .ok (.aload_n 0, 1) := by decide +kernel
theorem dX9_written_64 : decode cX9_written 64 = .ok (.getfield 44, 3) := by decide +kernel
theorem dX9_written_67 : decode cX9_written 67 = .ok (.iload_n 2, 1) := by decide +kernel
theorem dX9_written_68 : decode cX9_written 68 = .ok (.invokevirtual 164, 3) := by decide +kernel
theorem dX9_written_71 : decode cX9_written 71 = .ok (.ireturn, 1) := by decide +kernel
theorem dX9_last_0 : decode cX9_last 0 = .ok (.iload_n 1, 1) := by decide +kernel
theorem dX9_last_1 : decode cX9_last 1 = .ok (.invokestatic 63, 3) := by decide +kernel
theorem dX9_last_4 : decode cX9_last 4 = .ok (.ifCond .ne 5, 3) := by decide +kernel
theorem dX9_last_7 : decode cX9_last 7 = .ok (.iconst (-1), 1) := by decide +kernel
theorem dX9_last_8 : decode cX9_last 8 = .ok (.ireturn, 1) := by decide +kernel
theorem dX9_last_9 : decode cX9_last 9 = .ok (.iload_n 2, 1) := by decide +kernel
theorem dX9_last_10 : decode cX9_last 10 = .ok (.ifCond .lt 8, 3) := by decide +kernel
theorem dX9_last_13 : decode cX9_last 13 = .ok (.iload_n 2, 1) := by decide +kernel
theorem dX9_last_14 : decode cX9_last 14 = .ok (.iconst 3, 1) := by decide +kernel
theorem dX9_last_15 : decode cX9_last 15 = .ok (.if_icmp .le 6, 3) := by decide +kernel
theorem dX9_last_18 : decode cX9_last 18 = .ok (.bipush (-2), 2) := by decide +kernel
theorem dX9_last_20 : decode cX9_last 20 = .ok (.ireturn, 1) := by decide +kernel
theorem dX9_last_21 : decode cX9_last 21 = .ok (.aload_n 0, 1) := by decide +kernel
theorem dX9_last_22 : decode cX9_last 22 = .ok (.getfield 19, 3) := by decide +kernel
theorem dX9_last_25 : decode cX9_last 25 = .ok (.getfield 71, 3) := by decide +kernel
theorem dX9_last_28 : decode cX9_last 28 = .ok (.iload_n 1, 1) := by decide +kernel
theorem dX9_last_29 : decode cX9_last 29 = .ok (.aaload, 1) := by decide +kernel
theorem dX9_last_30 : decode cX9_last 30 = .ok (.astore_n 3, 1) := by decide +kernel
theorem dX9_last_31 : decode cX9_last 31 = .ok (.aload_n 3, 1) := by decide +kernel
theorem dX9_last_32 : decode cX9_last 32 = .ok (.invokevirtual 152, 3) := by decide +kernel
theorem dX9_last_35 : decode cX9_last 35 = .ok (.ifCond .ne 6, 3) := by decide +kernel
theorem dX9_last_38 : decode cX9_last 38 = .ok (.bipush (-3), 2) := by decide +kernel
theorem dX9_last_40 : decode cX9_last 40 = .ok (.ireturn, 1) := by decide +kernel
theorem dX9_last_41 : decode cX9_last 41 = .ok (.aload_n 3, 1) := by decide +kernel
theorem dX9_last_42 : decode cX9_last 42 = .ok (.getfield 156, 3) := by decide +kernel
theorem dX9_last_45 : decode cX9_last 45 = .ok (.astore 4, 2) := by decide +kernel
theorem dX9_last_47 : decode cX9_last 47 = .ok (.iload_n 2, 1) := by decide +kernel
theorem dX9_last_48 : decode cX9_last 48 = .ok (.ifCond .ne 9, 3) := by decide +kernel
theorem dX9_last_51 : decode cX9_last 51 = .ok (.aload 4, 2) := by decide +kernel
theorem dX9_last_53 : decode cX9_last 53 = .ok (.getfield 167, 3) := by decide +kernel
theorem dX9_last_56 : decode cX9_last 56 = .ok (.ireturn, 1) := by decide +kernel
theorem dX9_last_57 : decode cX9_last 57 = .ok (.iload_n 2, 1) := by decide +kernel
theorem dX9_last_58 : decode cX9_last 58 = .ok (.iconst 1, 1) := by decide +kernel
theorem dX9_last_59 : decode cX9_last 59 = .ok (.if_icmp .ne 9, 3) := by decide +kernel
theorem dX9_last_62 : decode cX9_last 62 = .ok (.aload 4, 2) := by decide +kernel
theorem dX9_last_64 : decode cX9_last 64 = .ok (.invokevirtual 168, 3) := by decide +kernel
theorem dX9_last_67 : decode cX9_last 67 = .ok (.ireturn, 1) := by decide +kernel
theorem dX9_last_68 : decode cX9_last 68 = .ok (.iload_n 2, 1) := by decide +kernel
theorem dX9_last_69 : decode cX9_last 69 = .ok (.iconst 2, 1) := by decide +kernel
theorem dX9_last_70 : decode cX9_last 70 = .ok (.if_icmp .ne 8, 3) := by decide +kernel
theorem dX9_last_73 : decode cX9_last 73 = .ok (.aload_n 3, 1) := by decide +kernel
theorem dX9_last_74 : decode cX9_last 74 = .ok (.getfield 171, 3) := by decide +kernel
theorem dX9_last_77 : decode cX9_last 77 = .ok (.ireturn, 1) := by decide +kernel
theorem dX9_last_78 : decode cX9_last 78 = .ok (.aload 4, 2) := by decide +kernel
theorem dX9_last_80 : decode cX9_last 80 = .ok (.invokevirtual 174, 3) := by decide +kernel
theorem dX9_last_83 : decode cX9_last 83 = .ok (.istore 5, 2) := by decide +kernel
theorem dX9_last_85 : decode cX9_last 85 = .ok (.iload 5, 2) := by decide +kernel
theorem dX9_last_87 : decode cX9_last 87 = .ok (.bipush (-6), 2) := by decide +kernel
theorem dX9_last_89 : decode cX9_last 89 = .ok (.if_icmp .ne 8, 3) := by decide +kernel
theorem dX9_last_92 : decode cX9_last 92 = .ok (.bipush (-6), 2) := by decide +kernel
theorem dX9_last_94 : decode cX9_last 94 = .ok (.goto 10, 3) := by decide +kernel
theorem dX9_last_97 : decode cX9_last 97 = .ok (.aload 4, 2) := by decide +kernel
theorem dX9_last_99 : decode cX9_last 99 = .ok (.iload 5, 2) := by decide +kernel
theorem dX9_last_101 : decode cX9_last 101 = .ok (.invokevirtual 177, 3) := by decide +kernel
theorem dX9_last_104 : decode cX9_last 104 = .ok (.ireturn, 1) := by decide +kernel
theorem dX9_trail_0 : decode cX9_trail 0 = .ok (.iload_n 1, 1) := by decide +kernel
theorem dX9_trail_1 : decode cX9_trail 1 = .ok (.invokestatic 63, 3) := by decide +kernel
theorem dX9_trail_4 : decode cX9_trail 4 = .ok (.ifCond .ne 5, 3) := by decide +kernel
theorem dX9_trail_7 : decode cX9_trail 7 = .ok (.iconst (-1), 1) := by decide +kernel
theorem dX9_trail_8 : decode cX9_trail 8 = .ok (.ireturn, 1) := by decide +kernel
theorem dX9_trail_9 : decode cX9_trail 9 = .ok (.aload_n 0, 1) := by decide +kernel
theorem dX9_trail_10 : decode cX9_trail 10 = .ok (.getfield 19, 3) := by decide +kernel
theorem dX9_trail_13 : decode cX9_trail 13 = .ok (.getfield 71, 3) := by decide +kernel
theorem dX9_trail_16 : decode cX9_trail 16 = .ok (.iload_n 1, 1) := by decide +kernel
theorem dX9_trail_17 : decode cX9_trail 17 = .ok (.aaload, 1) := by decide +kernel
theorem dX9_trail_18 : decode cX9_trail 18 = .ok (.astore_n 3, 1) := by decide +kernel
theorem dX9_trail_19 : decode cX9_trail 19 = .ok (.aload_n 3, 1) := by decide +kernel
theorem dX9_trail_20 : decode cX9_trail 20 = .ok (.invokevirtual 152, 3) := by decide +kernel
theorem dX9_trail_23 : decode cX9_trail 23 = .ok (.ifCond .ne 6, 3) := by decide +kernel
theorem dX9_trail_26 : decode cX9_trail 26 = .ok (.bipush (-3), 2) := by decide +kernel
theorem dX9_trail_28 : decode cX9_trail 28 = .ok (.ireturn, 1) := by decide +kernel
theorem dX9_trail_29 : decode cX9_trail 29 = .ok (.iload_n 2, 1) := by decide +kernel
theorem dX9_trail_30 : decode cX9_trail 30 = .ok (.iconst (-1), 1) := by decide +kernel
theorem dX9_trail_31 : decode cX9_trail 31 = .ok (.if_icmp .ne 11, 3) := by decide +kernel
theorem dX9_trail_34 : decode cX9_trail 34 = .ok (.aload_n 3, 1) := by decide +kernel
theorem dX9_trail_35 : decode cX9_trail 35 = .ok (.getfield 156, 3) := by decide +kernel
theorem dX9_trail_38 : decode cX9_trail 38 = .ok (.invokevirtual 168, 3) := by decide +kernel
theorem dX9_trail_41 : decode cX9_trail 41 = .ok (.ireturn, 1) := by decide +kernel
theorem dX9_trail_42 : decode cX9_trail 42 = .ok (.aload_n 3, 1) := by decide +kernel
theorem dX9_trail_43 : decode cX9_trail 43 = .ok (.getfield 156, 3) := by decide +kernel
theorem dX9_trail_46 : decode cX9_trail 46 = .ok (.iload_n 2, 1) := by decide +kernel
theorem dX9_trail_47 : decode cX9_trail 47 = .ok (.invokevirtual 180, 3) := by decide +kernel
theorem dX9_trail_50 : decode cX9_trail 50 = .ok (.istore 4, 2) := by decide +kernel
theorem dX9_trail_52 : decode cX9_trail 52 = .ok (.iload 4, 2) := by decide +kernel
theorem dX9_trail_54 : decode cX9_trail 54 = .ok (.bipush (-6), 2) := by decide +kernel
theorem dX9_trail_56 : decode cX9_trail 56 = .ok (.if_icmp .ne 8, 3) := by decide +kernel
theorem dX9_trail_59 : decode cX9_trail 59 = .ok (.bipush (-6), 2) := by decide +kernel
theorem dX9_trail_61 : decode cX9_trail 61 = .ok (.goto 19, 3) := by decide +kernel
theorem dX9_trail_64 : decode cX9_trail 64 = .ok (.aload_n 0, 1) := by decide +kernel
theorem dX9_trail_65 : decode cX9_trail 65 = .ok (.getfield 19, 3) := by decide +kernel
theorem dX9_trail_68 : decode cX9_trail 68 = .ok (.aload_n 3, 1) := by decide +kernel
theorem dX9_trail_69 : decode cX9_trail 69 = .ok (.getfield 156, 3) := by decide +kernel
theorem dX9_trail_72 : decode cX9_trail 72 = .ok (.iload 4, 2) := by decide +kernel
theorem dX9_trail_74 : decode cX9_trail 74 = .ok (.invokevirtual 183, 3) := by decide +kernel
theorem dX9_trail_77 : decode cX9_trail 77 = .ok (.invokevirtual 75, 3) := by decide +kernel
theorem dX9_trail_80 : decode cX9_trail 80 = .ok (.ireturn, 1) := by decide +kernel
theorem dX9_reach_0 : decode cX9_reach 0 = .ok (.iload_n 1, 1) := by decide +kernel
theorem dX9_reach_1 : decode cX9_reach 1 = .ok (.invokestatic 63, 3) := by decide +kernel
theorem dX9_reach_4 : decode cX9_reach 4 = .ok (.ifCond .ne 5, 3) := by decide +kernel
theorem dX9_reach_7 : decode cX9_reach 7 = .ok (.iconst (-1), 1) := by decide +kernel
theorem dX9_reach_8 : decode cX9_reach 8 = .ok (.ireturn, 1) := by decide +kernel
theorem dX9_reach_9 : decode cX9_reach 9 = .ok (.iload_n 2, 1) := by decide +kernel
theorem dX9_reach_10 : decode cX9_reach 10 = .ok (.invokestatic 186, 3) := by decide +kernel
theorem dX9_reach_13 : decode cX9_reach 13 = .ok (.ifCond .eq 12, 3) := by decide +kernel
theorem dX9_reach_16 : decode cX9_reach 16 = .ok (.iload_n 3, 1) := by decide +kernel
theorem dX9_reach_17 : decode cX9_reach 17 = .ok (.ifCond .lt 8, 3) := by decide +kernel
theorem dX9_reach_20 : decode cX9_reach 20 = .ok (.iload_n 3, 1) := by decide +kernel
theorem dX9_reach_21 : decode cX9_reach 21 = .ok (.iconst 3, 1) := by decide +kernel
theorem dX9_reach_22 : decode cX9_reach 22 = .ok (.if_icmp .le 6, 3) := by decide +kernel
theorem dX9_reach_25 : decode cX9_reach 25 = .ok (.bipush (-2), 2) := by decide +kernel
theorem dX9_reach_27 : decode cX9_reach 27 = .ok (.ireturn, 1) := by decide +kernel
theorem dX9_reach_28 : decode cX9_reach 28 = .ok (.aload_n 0, 1) := by decide +kernel
theorem dX9_reach_29 : decode cX9_reach 29 = .ok (.getfield 10, 3) := by decide +kernel
theorem dX9_reach_32 : decode cX9_reach 32 = .ok (.invokevirtual 67, 3) := by decide +kernel
theorem dX9_reach_35 : decode cX9_reach 35 = .ok (.istore 4, 2) := by decide +kernel
theorem dX9_reach_37 : decode cX9_reach 37 = .ok (.iload 4, 2) := by decide +kernel
theorem dX9_reach_39 : decode cX9_reach 39 = .ok (.ifCond .ne 6, 3) := by decide +kernel
theorem dX9_reach_42 : decode cX9_reach 42 = .ok (.bipush (-7), 2) := by decide +kernel
theorem dX9_reach_44 : decode cX9_reach 44 = .ok (.ireturn, 1) := by decide +kernel
theorem dX9_reach_45 : decode cX9_reach 45 = .ok (.aload_n 0, 1) := by decide +kernel
theorem dX9_reach_46 : decode cX9_reach 46 = .ok (.getfield 26, 3) := by decide +kernel
theorem dX9_reach_49 : decode cX9_reach 49 = .ok (.aload_n 0, 1) := by decide +kernel
theorem dX9_reach_50 : decode cX9_reach 50 = .ok (.getfield 19, 3) := by decide +kernel
theorem dX9_reach_53 : decode cX9_reach 53 = .ok (.invokevirtual 189, 3) := by decide +kernel
theorem dX9_reach_56 : decode cX9_reach 56 = .ok (.aload_n 0, 1) := by decide +kernel
theorem dX9_reach_57 : decode cX9_reach 57 = .ok (.getfield 26, 3) := by decide +kernel
theorem dX9_reach_60 : decode cX9_reach 60 = .ok (.iload_n 1, 1) := by decide +kernel
theorem dX9_reach_61 : decode cX9_reach 61 = .ok (.iload 4, 2) := by decide +kernel
theorem dX9_reach_63 : decode cX9_reach 63 = .ok (.iload_n 2, 1) := by decide +kernel
theorem dX9_reach_64 : decode cX9_reach 64 = .ok (.invokevirtual 193, 3) := by decide +kernel
theorem dX9_reach_67 : decode cX9_reach 67 = .ok (.iload_n 3, 1) := by decide +kernel
theorem dX9_reach_68 : decode cX9_reach 68 = .ok (.ifCond .ne 11, 3) := by decide +kernel
theorem dX9_reach_71 : decode cX9_reach 71 = .ok (.aload_n 0, 1) := by decide +kernel
theorem dX9_reach_72 : decode cX9_reach 72 = .ok (.getfield 26, 3) := by decide +kernel
theorem dX9_reach_75 : decode cX9_reach 75 = .ok (.getfield 197, 3) := by decide +kernel
theorem dX9_reach_78 : decode cX9_reach 78 = .ok (.ireturn, 1) := by decide +kernel
theorem dX9_reach_79 : decode cX9_reach 79 = .ok (.iload_n 3, 1) := by decide +kernel
theorem dX9_reach_80 : decode cX9_reach 80 = .ok (.iconst 1, 1) := by decide +kernel
theorem dX9_reach_81 : decode cX9_reach 81 = .ok (.if_icmp .ne 11, 3) := by decide +kernel
theorem dX9_reach_84 : decode cX9_reach 84 = .ok (.aload_n 0, 1) := by decide +kernel
theorem dX9_reach_85 : decode cX9_reach 85 = .ok (.getfield 26, 3) := by decide +kernel
theorem dX9_reach_88 : decode cX9_reach 88 = .ok (.getfield 200, 3) := by decide +kernel
theorem dX9_reach_91 : decode cX9_reach 91 = .ok (.ireturn, 1) := by decide +kernel
theorem dX9_reach_92 : decode cX9_reach 92 = .ok (.aload_n 0, 1) := by decide +kernel
theorem dX9_reach_93 : decode cX9_reach 93 = .ok (.getfield 26, 3) := by decide +kernel
theorem dX9_reach_96 : decode cX9_reach 96 = .ok (.getfield 203, 3) := by decide +kernel
theorem dX9_reach_99 : decode cX9_reach 99 = .ok (.iload_n 3, 1) := by decide +kernel
theorem dX9_reach_100 : decode cX9_reach 100 = .ok (.iconst 2, 1) := by decide +kernel
theorem dX9_reach_101 : decode cX9_reach 101 = .ok (.if_icmp .ne 7, 3) := by decide +kernel
theorem dX9_reach_104 : decode cX9_reach 104 = .ok (.iconst 0, 1) := by decide +kernel
theorem dX9_reach_105 : decode cX9_reach 105 = .ok (.goto 5, 3) := by decide +kernel
theorem dX9_reach_108 : decode cX9_reach 108 = .ok (.bipush 7, 2) := by decide +kernel
theorem dX9_reach_110 : decode cX9_reach 110 = .ok (.invokevirtual 204, 3) := by decide +kernel
theorem dX9_reach_113 : decode cX9_reach 113 = .ok (.ireturn, 1) := by decide +kernel
theorem dX9_fewest_0 : decode cX9_fewest 0 = .ok (.iload_n 1, 1) := by decide +kernel
theorem dX9_fewest_1 : decode cX9_fewest 1 = .ok (.invokestatic 63, 3) := by decide +kernel
theorem dX9_fewest_4 : decode cX9_fewest 4 = .ok (.ifCond .eq 10, 3) := by decide +kernel
theorem dX9_fewest_7 : decode cX9_fewest 7 = .ok (.iload_n 2, 1) := by decide +kernel
theorem dX9_fewest_8 : decode cX9_fewest 8 = .ok (.invokestatic 63, 3) := by decide +kernel
theorem dX9_fewest_11 : decode cX9_fewest 11 = .ok (.ifCond .ne 5, 3) := by decide +kernel
theorem dX9_fewest_14 : decode cX9_fewest 14 = .ok (.iconst (-1), 1) := by decide +kernel
theorem dX9_fewest_15 : decode cX9_fewest 15 = .ok (.ireturn, 1) := by decide +kernel
theorem dX9_fewest_16 : decode cX9_fewest 16 = .ok (.iload_n 1, 1) := by decide +kernel
theorem dX9_fewest_17 : decode cX9_fewest 17 = .ok (.iload_n 2, 1) := by decide +kernel
theorem dX9_fewest_18 : decode cX9_fewest 18 = .ok (.if_icmp .ne 6, 3) := by decide +kernel
theorem dX9_fewest_21 : decode cX9_fewest 21 = .ok (.bipush (-2), 2) := by decide +kernel
theorem dX9_fewest_23 : decode cX9_fewest 23 = .ok (.ireturn, 1) := by decide +kernel
theorem dX9_fewest_24 : decode cX9_fewest 24 = .ok (.aload_n 0, 1) := by decide +kernel
theorem dX9_fewest_25 : decode cX9_fewest 25 = .ok (.getfield 10, 3) := by decide +kernel
theorem dX9_fewest_28 : decode cX9_fewest 28 = .ok (.invokevirtual 67, 3) := by decide +kernel
theorem dX9_fewest_31 : decode cX9_fewest 31 = .ok (.istore_n 3, 1) := by decide +kernel
theorem dX9_fewest_32 : decode cX9_fewest 32 = .ok (.iload_n 3, 1) := by decide +kernel
theorem dX9_fewest_33 : decode cX9_fewest 33 = .ok (.ifCond .ne 6, 3) := by decide +kernel
theorem dX9_fewest_36 : decode cX9_fewest 36 = .ok (.bipush (-7), 2) := by decide +kernel
theorem dX9_fewest_38 : decode cX9_fewest 38 = .ok (.ireturn, 1) := by decide +kernel
theorem dX9_fewest_39 : decode cX9_fewest 39 = .ok (.iconst 1, 1) := by decide +kernel
theorem dX9_fewest_40 : decode cX9_fewest 40 = .ok (.istore 4, 2) := by decide +kernel
theorem dX9_fewest_42 : decode cX9_fewest 42 = .ok (.iload 4, 2) := by decide +kernel
theorem dX9_fewest_44 : decode cX9_fewest 44 = .ok (.bipush 7, 2) := by decide +kernel
theorem dX9_fewest_46 : decode cX9_fewest 46 = .ok (.if_icmp .gt 48, 3) := by decide +kernel
theorem dX9_fewest_49 : decode cX9_fewest 49 = .ok (.aload_n 0, 1) := by decide +kernel
theorem dX9_fewest_50 : decode cX9_fewest 50 = .ok (.getfield 26, 3) := by decide +kernel
theorem dX9_fewest_53 : decode cX9_fewest 53 = .ok (.aload_n 0, 1) := by decide +kernel
theorem dX9_fewest_54 : decode cX9_fewest 54 = .ok (.getfield 19, 3) := by decide +kernel
theorem dX9_fewest_57 : decode cX9_fewest 57 = .ok (.invokevirtual 189, 3) := by decide +kernel
theorem dX9_fewest_60 : decode cX9_fewest 60 = .ok (.aload_n 0, 1) := by decide +kernel
theorem dX9_fewest_61 : decode cX9_fewest 61 = .ok (.getfield 26, 3) := by decide +kernel
theorem dX9_fewest_64 : decode cX9_fewest 64 = .ok (.iload_n 1, 1) := by decide +kernel
theorem dX9_fewest_65 : decode cX9_fewest 65 = .ok (.iload_n 3, 1) := by decide +kernel
theorem dX9_fewest_66 : decode cX9_fewest 66 = .ok (.iload 4, 2) := by decide +kernel
theorem dX9_fewest_68 : decode cX9_fewest 68 = .ok (.invokevirtual 193, 3) := by decide +kernel
theorem dX9_fewest_71 : decode cX9_fewest 71 = .ok (.aload_n 0, 1) := by decide +kernel
theorem dX9_fewest_72 : decode cX9_fewest 72 = .ok (.getfield 26, 3) := by decide +kernel
theorem dX9_fewest_75 : decode cX9_fewest 75 = .ok (.getfield 197, 3) := by decide +kernel
theorem dX9_fewest_78 : decode cX9_fewest 78 = .ok (.iload_n 2, 1) := by decide +kernel
theorem dX9_fewest_79 : decode cX9_fewest 79 = .ok (.invokestatic 207, 3) := by decide +kernel
theorem dX9_fewest_82 : decode cX9_fewest 82 = .ok (.ifCond .eq 6, 3) := by decide +kernel
theorem dX9_fewest_85 : decode cX9_fewest 85 = .ok (.iload 4, 2) := by decide +kernel
theorem dX9_fewest_87 : decode cX9_fewest 87 = .ok (.ireturn, 1) := by decide +kernel
theorem dX9_fewest_88 : decode cX9_fewest 88 = .ok (.iinc 4 1, 3) := by decide +kernel
theorem dX9_fewest_91 : decode cX9_fewest 91 = .ok (.goto (-49), 3) := by decide +kernel
theorem dX9_fewest_94 : decode cX9_fewest 94 = .ok (.bipush (-6), 2) := by decide +kernel
theorem dX9_fewest_96 : decode cX9_fewest 96 = .ok (.ireturn, 1) := by decide +kernel
theorem dX9_bridges_0 : decode cX9_bridges 0 = .ok (.iload_n 1, 1) := by decide +kernel
theorem dX9_bridges_1 : decode cX9_bridges 1 = .ok (.invokestatic 63, 3) := by decide +kernel
theorem dX9_bridges_4 : decode cX9_bridges 4 = .ok (.ifCond .eq 10, 3) := by decide +kernel
theorem dX9_bridges_7 : decode cX9_bridges 7 = .ok (.iload_n 2, 1) := by decide +kernel
theorem dX9_bridges_8 : decode cX9_bridges 8 = .ok (.invokestatic 63, 3) := by decide +kernel
theorem dX9_bridges_11 : decode cX9_bridges 11 = .ok (.ifCond .ne 5, 3) := by decide +kernel
theorem dX9_bridges_14 : decode cX9_bridges 14 = .ok (.iconst (-1), 1) := by decide +kernel
theorem dX9_bridges_15 : decode cX9_bridges 15 = .ok (.ireturn, 1) := by decide +kernel
theorem dX9_bridges_16 : decode cX9_bridges 16 = .ok (.iload_n 1, 1) := by decide +kernel
theorem dX9_bridges_17 : decode cX9_bridges 17 = .ok (.iload_n 2, 1) := by decide +kernel
theorem dX9_bridges_18 : decode cX9_bridges 18 = .ok (.if_icmp .eq 10, 3) := by decide +kernel
theorem dX9_bridges_21 : decode cX9_bridges 21 = .ok (.iload_n 3, 1) := by decide +kernel
theorem dX9_bridges_22 : decode cX9_bridges 22 = .ok (.invokestatic 186, 3) := by decide +kernel
theorem dX9_bridges_25 : decode cX9_bridges 25 = .ok (.ifCond .ne 6, 3) := by decide +kernel
theorem dX9_bridges_28 : decode cX9_bridges 28 = .ok (.bipush (-2), 2) := by decide +kernel
theorem dX9_bridges_30 : decode cX9_bridges 30 = .ok (.ireturn, 1) := by decide +kernel
theorem dX9_bridges_31 : decode cX9_bridges 31 = .ok (.aload_n 0, 1) := by decide +kernel
theorem dX9_bridges_32 : decode cX9_bridges 32 = .ok (.getfield 10, 3) := by decide +kernel
theorem dX9_bridges_35 : decode cX9_bridges 35 = .ok (.invokevirtual 67, 3) := by decide +kernel
theorem dX9_bridges_38 : decode cX9_bridges 38 = .ok (.istore 4, 2) := by decide +kernel
theorem dX9_bridges_40 : decode cX9_bridges 40 = .ok (.iload 4, 2) := by decide +kernel
theorem dX9_bridges_42 : decode cX9_bridges 42 = .ok (.ifCond .ne 6, 3) := by decide +kernel
theorem dX9_bridges_45 : decode cX9_bridges 45 = .ok (.bipush (-7), 2) := by decide +kernel
theorem dX9_bridges_47 : decode cX9_bridges 47 = .ok (.ireturn, 1) := by decide +kernel
theorem dX9_bridges_48 : decode cX9_bridges 48 = .ok (.aload_n 0, 1) := by decide +kernel
theorem dX9_bridges_49 : decode cX9_bridges 49 = .ok (.getfield 26, 3) := by decide +kernel
theorem dX9_bridges_52 : decode cX9_bridges 52 = .ok (.aload_n 0, 1) := by decide +kernel
theorem dX9_bridges_53 : decode cX9_bridges 53 = .ok (.getfield 19, 3) := by decide +kernel
theorem dX9_bridges_56 : decode cX9_bridges 56 = .ok (.invokevirtual 189, 3) := by decide +kernel
theorem dX9_bridges_59 : decode cX9_bridges 59 = .ok (.aload_n 0, 1) := by decide +kernel
theorem dX9_bridges_60 : decode cX9_bridges 60 = .ok (.getfield 26, 3) := by decide +kernel
theorem dX9_bridges_63 : decode cX9_bridges 63 = .ok (.iload_n 1, 1) := by decide +kernel
theorem dX9_bridges_64 : decode cX9_bridges 64 = .ok (.iload 4, 2) := by decide +kernel
theorem dX9_bridges_66 : decode cX9_bridges 66 = .ok (.iload_n 3, 1) := by decide +kernel
theorem dX9_bridges_67 : decode cX9_bridges 67 = .ok (.invokevirtual 193, 3) := by decide +kernel
theorem dX9_bridges_70 : decode cX9_bridges 70 = .ok (.aload_n 0, 1) := by decide +kernel
theorem dX9_bridges_71 : decode cX9_bridges 71 = .ok (.getfield 26, 3) := by decide +kernel
theorem dX9_bridges_74 : decode cX9_bridges 74 = .ok (.getfield 197, 3) := by decide +kernel
theorem dX9_bridges_77 : decode cX9_bridges 77 = .ok (.iload_n 2, 1) := by decide +kernel
theorem dX9_bridges_78 : decode cX9_bridges 78 = .ok (.invokestatic 207, 3) := by decide +kernel
theorem dX9_bridges_81 : decode cX9_bridges 81 = .ok (.ifCond .ne 6, 3) := by decide +kernel
theorem dX9_bridges_84 : decode cX9_bridges 84 = .ok (.bipush (-6), 2) := by decide +kernel
theorem dX9_bridges_86 : decode cX9_bridges 86 = .ok (.ireturn, 1) := by decide +kernel
theorem dX9_bridges_87 : decode cX9_bridges 87 = .ok (.iconst 0, 1) := by decide +kernel
theorem dX9_bridges_88 : decode cX9_bridges 88 = .ok (.istore 5, 2) := by decide +kernel
theorem dX9_bridges_90 : decode cX9_bridges 90 = .ok (.iconst 0, 1) := by decide +kernel
theorem dX9_bridges_91 : decode cX9_bridges 91 = .ok (.istore 6, 2) := by decide +kernel
theorem dX9_bridges_93 : decode cX9_bridges 93 = .ok (.iload 6, 2) := by decide +kernel
theorem dX9_bridges_95 : decode cX9_bridges 95 = .ok (.bipush 6, 2) := by decide +kernel
theorem dX9_bridges_97 : decode cX9_bridges 97 = .ok (.if_icmp .ge 78, 3) := by decide +kernel
theorem dX9_bridges_100 : decode cX9_bridges 100 = .ok (.iload 6, 2) := by decide +kernel
theorem dX9_bridges_102 : decode cX9_bridges 102 = .ok (.iload_n 1, 1) := by decide +kernel
theorem dX9_bridges_103 : decode cX9_bridges 103 = .ok (.if_icmp .eq 66, 3) := by decide +kernel
theorem dX9_bridges_106 : decode cX9_bridges 106 = .ok (.iload 6, 2) := by decide +kernel
theorem dX9_bridges_108 : decode cX9_bridges 108 = .ok (.iload_n 2, 1) := by decide +kernel
theorem dX9_bridges_109 : decode cX9_bridges 109 = .ok (.if_icmp .eq 60, 3) := by decide +kernel
theorem dX9_bridges_112 : decode cX9_bridges 112 = .ok (.aload_n 0, 1) := by decide +kernel
theorem dX9_bridges_113 : decode cX9_bridges 113 = .ok (.getfield 26, 3) := by decide +kernel
theorem dX9_bridges_116 : decode cX9_bridges 116 = .ok (.aload_n 0, 1) := by decide +kernel
theorem dX9_bridges_117 : decode cX9_bridges 117 = .ok (.getfield 19, 3) := by decide +kernel
theorem dX9_bridges_120 : decode cX9_bridges 120 = .ok (.invokevirtual 189, 3) := by decide +kernel
theorem dX9_bridges_123 : decode cX9_bridges 123 = .ok (.aload_n 0, 1) := by decide +kernel
theorem dX9_bridges_124 : decode cX9_bridges 124 = .ok (.getfield 26, 3) := by decide +kernel
theorem dX9_bridges_127 : decode cX9_bridges 127 = .ok (.getfield 203, 3) := by decide +kernel
theorem dX9_bridges_130 : decode cX9_bridges 130 = .ok (.iload 6, 2) := by decide +kernel
theorem dX9_bridges_132 : decode cX9_bridges 132 = .ok (.invokevirtual 210, 3) := by decide +kernel
theorem dX9_bridges_135 : decode cX9_bridges 135 = .ok (.aload_n 0, 1) := by decide +kernel
theorem dX9_bridges_136 : decode cX9_bridges 136 = .ok (.getfield 26, 3) := by decide +kernel
theorem dX9_bridges_139 : decode cX9_bridges 139 = .ok (.iload_n 1, 1) := by decide +kernel
theorem dX9_bridges_140 : decode cX9_bridges 140 = .ok (.iload 4, 2) := by decide +kernel
theorem dX9_bridges_142 : decode cX9_bridges 142 = .ok (.iload_n 3, 1) := by decide +kernel
theorem dX9_bridges_143 : decode cX9_bridges 143 = .ok (.invokevirtual 193, 3) := by decide +kernel
theorem dX9_bridges_146 : decode cX9_bridges 146 = .ok (.aload_n 0, 1) := by decide +kernel
theorem dX9_bridges_147 : decode cX9_bridges 147 = .ok (.getfield 26, 3) := by decide +kernel
theorem dX9_bridges_150 : decode cX9_bridges 150 = .ok (.getfield 197, 3) := by decide +kernel
theorem dX9_bridges_153 : decode cX9_bridges 153 = .ok (.iload_n 2, 1) := by decide +kernel
theorem dX9_bridges_154 : decode cX9_bridges 154 = .ok (.invokestatic 207, 3) := by decide +kernel
theorem dX9_bridges_157 : decode cX9_bridges 157 = .ok (.ifCond .ne 12, 3) := by decide +kernel
theorem dX9_bridges_160 : decode cX9_bridges 160 = .ok (.iload 5, 2) := by decide +kernel
theorem dX9_bridges_162 : decode cX9_bridges 162 = .ok (.iconst 1, 1) := by decide +kernel
theorem dX9_bridges_163 : decode cX9_bridges 163 = .ok (.iload 6, 2) := by decide +kernel
theorem dX9_bridges_165 : decode cX9_bridges 165 = .ok (.ishl, 1) := by decide +kernel
theorem dX9_bridges_166 : decode cX9_bridges 166 = .ok (.ior, 1) := by decide +kernel
theorem dX9_bridges_167 : decode cX9_bridges 167 = .ok (.istore 5, 2) := by decide +kernel
theorem dX9_bridges_169 : decode cX9_bridges 169 = .ok (.iinc 6 1, 3) := by decide +kernel
theorem dX9_bridges_172 : decode cX9_bridges 172 = .ok (.goto (-79), 3) := by decide +kernel
theorem dX9_bridges_175 : decode cX9_bridges 175 = .ok (.iload 5, 2) := by decide +kernel
theorem dX9_bridges_177 : decode cX9_bridges 177 = .ok (.ireturn, 1) := by decide +kernel
theorem dX9_image_0 : decode cX9_image 0 = .ok (.iload_n 1, 1) := by decide +kernel
theorem dX9_image_1 : decode cX9_image 1 = .ok (.ifCond .lt 8, 3) := by decide +kernel
theorem dX9_image_4 : decode cX9_image 4 = .ok (.iload_n 1, 1) := by decide +kernel
theorem dX9_image_5 : decode cX9_image 5 = .ok (.iconst 2, 1) := by decide +kernel
theorem dX9_image_6 : decode cX9_image 6 = .ok (.if_icmp .lt 6, 3) := by decide +kernel
theorem dX9_image_9 : decode cX9_image 9 = .ok (.bipush (-2), 2) := by decide +kernel
theorem dX9_image_11 : decode cX9_image 11 = .ok (.ireturn, 1) := by decide +kernel
theorem dX9_image_12 : decode cX9_image 12 = .ok (.aload_n 0, 1) := by decide +kernel
theorem dX9_image_13 : decode cX9_image 13 = .ok (.getfield 30, 3) := by decide +kernel
theorem dX9_image_16 : decode cX9_image 16 = .ok (.iload_n 1, 1) := by decide +kernel
theorem dX9_image_17 : decode cX9_image 17 = .ok (.aaload, 1) := by decide +kernel
theorem dX9_image_18 : decode cX9_image 18 = .ok (.ifnonnull 16, 3) := by decide +kernel
theorem dX9_image_21 : decode cX9_image 21 = .ok (.aload_n 0, 1) := by decide +kernel
theorem dX9_image_22 : decode cX9_image 22 = .ok (.getfield 30, 3) := by decide +kernel
theorem dX9_image_25 : decode cX9_image 25 = .ok (.iload_n 1, 1) := by decide +kernel
theorem dX9_image_26 : decode cX9_image 26 = .ok (.new 16, 3) := by decide +kernel
theorem dX9_image_29 : decode cX9_image 29 = .ok (.dup, 1) := by decide +kernel
theorem dX9_image_30 : decode cX9_image 30 = .ok (.invokespecial 18, 3) := by decide +kernel
theorem dX9_image_33 : decode cX9_image 33 = .ok (.aastore, 1) := by decide +kernel
theorem dX9_image_34 : decode cX9_image 34 = .ok (.aload_n 0, 1) := by decide +kernel
theorem dX9_image_35 : decode cX9_image 35 = .ok (.getfield 30, 3) := by decide +kernel
theorem dX9_image_38 : decode cX9_image 38 = .ok (.iload_n 1, 1) := by decide +kernel
theorem dX9_image_39 : decode cX9_image 39 = .ok (.aaload, 1) := by decide +kernel
theorem dX9_image_40 : decode cX9_image 40 = .ok (.aload_n 0, 1) := by decide +kernel
theorem dX9_image_41 : decode cX9_image 41 = .ok (.getfield 19, 3) := by decide +kernel
theorem dX9_image_44 : decode cX9_image 44 = .ok (.invokevirtual 213, 3) := by decide +kernel
theorem dX9_image_47 : decode cX9_image 47 = .ok (.iconst 1, 1) := by decide +kernel
theorem dX9_image_48 : decode cX9_image 48 = .ok (.ireturn, 1) := by decide +kernel
theorem dX9_restore_0 : decode cX9_restore 0 = .ok (.iload_n 1, 1) := by decide +kernel
theorem dX9_restore_1 : decode cX9_restore 1 = .ok (.ifCond .lt 8, 3) := by decide +kernel
theorem dX9_restore_4 : decode cX9_restore 4 = .ok (.iload_n 1, 1) := by decide +kernel
theorem dX9_restore_5 : decode cX9_restore 5 = .ok (.iconst 2, 1) := by decide +kernel
theorem dX9_restore_6 : decode cX9_restore 6 = .ok (.if_icmp .lt 6, 3) := by decide +kernel
theorem dX9_restore_9 : decode cX9_restore 9 = .ok (.bipush (-2), 2) := by decide +kernel
theorem dX9_restore_11 : decode cX9_restore 11 = .ok (.ireturn, 1) := by decide +kernel
theorem dX9_restore_12 : decode cX9_restore 12 = .ok (.aload_n 0, 1) := by decide +kernel
theorem dX9_restore_13 : decode cX9_restore 13 = .ok (.getfield 30, 3) := by decide +kernel
theorem dX9_restore_16 : decode cX9_restore 16 = .ok (.iload_n 1, 1) := by decide +kernel
theorem dX9_restore_17 : decode cX9_restore 17 = .ok (.aaload, 1) := by decide +kernel
theorem dX9_restore_18 : decode cX9_restore 18 = .ok (.ifnonnull 6, 3) := by decide +kernel
theorem dX9_restore_21 : decode cX9_restore 21 = .ok (.bipush (-3), 2) := by decide +kernel
theorem dX9_restore_23 : decode cX9_restore 23 = .ok (.ireturn, 1) := by decide +kernel
theorem dX9_restore_24 : decode cX9_restore 24 = .ok (.aload_n 0, 1) := by decide +kernel
theorem dX9_restore_25 : decode cX9_restore 25 = .ok (.getfield 19, 3) := by decide +kernel
theorem dX9_restore_28 : decode cX9_restore 28 = .ok (.aload_n 0, 1) := by decide +kernel
theorem dX9_restore_29 : decode cX9_restore 29 = .ok (.getfield 30, 3) := by decide +kernel
theorem dX9_restore_32 : decode cX9_restore 32 = .ok (.iload_n 1, 1) := by decide +kernel
theorem dX9_restore_33 : decode cX9_restore 33 = .ok (.aaload, 1) := by decide +kernel
theorem dX9_restore_34 : decode cX9_restore 34 = .ok (.invokevirtual 213, 3) := by decide +kernel
theorem dX9_restore_37 : decode cX9_restore 37 = .ok (.iconst 1, 1) := by decide +kernel
theorem dX9_restore_38 : decode cX9_restore 38 = .ok (.ireturn, 1) := by decide +kernel
theorem dX9_count_0 : decode cX9_count 0 = .ok (.iload_n 1, 1) := by decide +kernel
theorem dX9_count_1 : decode cX9_count 1 = .ok (.tableswitch 99 0 6 #[43, 51, 59, 67, 76, 86, 94], 43) := by decide +kernel
theorem dX9_count_44 : decode cX9_count 44 = .ok (.aload_n 0, 1) := by decide +kernel
theorem dX9_count_45 : decode cX9_count 45 = .ok (.getfield 19, 3) := by decide +kernel
theorem dX9_count_48 : decode cX9_count 48 = .ok (.getfield 129, 3) := by decide +kernel
theorem dX9_count_51 : decode cX9_count 51 = .ok (.ireturn, 1) := by decide +kernel
theorem dX9_count_52 : decode cX9_count 52 = .ok (.aload_n 0, 1) := by decide +kernel
theorem dX9_count_53 : decode cX9_count 53 = .ok (.getfield 10, 3) := by decide +kernel
theorem dX9_count_56 : decode cX9_count 56 = .ok (.getfield 48, 3) := by decide +kernel
theorem dX9_count_59 : decode cX9_count 59 = .ok (.ireturn, 1) := by decide +kernel
theorem dX9_count_60 : decode cX9_count 60 = .ok (.aload_n 0, 1) := by decide +kernel
theorem dX9_count_61 : decode cX9_count 61 = .ok (.getfield 19, 3) := by decide +kernel
theorem dX9_count_64 : decode cX9_count 64 = .ok (.invokevirtual 139, 3) := by decide +kernel
theorem dX9_count_67 : decode cX9_count 67 = .ok (.ireturn, 1) := by decide +kernel
theorem dX9_count_68 : decode cX9_count 68 = .ok (.aload_n 0, 1) := by decide +kernel
theorem dX9_count_69 : decode cX9_count 69 = .ok (.getfield 19, 3) := by decide +kernel
theorem dX9_count_72 : decode cX9_count 72 = .ok (.iconst 0, 1) := by decide +kernel
theorem dX9_count_73 : decode cX9_count 73 = .ok (.invokevirtual 204, 3) := by decide +kernel
theorem dX9_count_76 : decode cX9_count 76 = .ok (.ireturn, 1) := by decide +kernel
theorem dX9_count_77 : decode cX9_count 77 = .ok (.aload_n 0, 1) := by decide +kernel
theorem dX9_count_78 : decode cX9_count 78 = .ok (.getfield 19, 3) := by decide +kernel
theorem dX9_count_81 : decode cX9_count 81 = .ok (.bipush 7, 2) := by decide +kernel
theorem dX9_count_83 : decode cX9_count 83 = .ok (.invokevirtual 204, 3) := by decide +kernel
theorem dX9_count_86 : decode cX9_count 86 = .ok (.ireturn, 1) := by decide +kernel
theorem dX9_count_87 : decode cX9_count 87 = .ok (.aload_n 0, 1) := by decide +kernel
theorem dX9_count_88 : decode cX9_count 88 = .ok (.getfield 19, 3) := by decide +kernel
theorem dX9_count_91 : decode cX9_count 91 = .ok (.invokevirtual 216, 3) := by decide +kernel
theorem dX9_count_94 : decode cX9_count 94 = .ok (.ireturn, 1) := by decide +kernel
theorem dX9_count_95 : decode cX9_count 95 = .ok (.aload_n 0, 1) := by decide +kernel
theorem dX9_count_96 : decode cX9_count 96 = .ok (.invokevirtual 219, 3) := by decide +kernel
theorem dX9_count_99 : decode cX9_count 99 = .ok (.ireturn, 1) := by decide +kernel
theorem dX9_count_100 : decode cX9_count 100 = .ok (.bipush (-2), 2) := by decide +kernel
theorem dX9_count_102 : decode cX9_count 102 = .ok (.ireturn, 1) := by decide +kernel
theorem dX9_imagesKept_0 : decode cX9_imagesKept 0 = .ok (.iconst 0, 1) := by decide +kernel
theorem dX9_imagesKept_1 : decode cX9_imagesKept 1 = .ok (.istore_n 1, 1) := by decide +kernel
theorem dX9_imagesKept_2 : decode cX9_imagesKept 2 = .ok (.iconst 0, 1) := by decide +kernel
theorem dX9_imagesKept_3 : decode cX9_imagesKept 3 = .ok (.istore_n 2, 1) := by decide +kernel
theorem dX9_imagesKept_4 : decode cX9_imagesKept 4 = .ok (.iload_n 2, 1) := by decide +kernel
theorem dX9_imagesKept_5 : decode cX9_imagesKept 5 = .ok (.iconst 2, 1) := by decide +kernel
theorem dX9_imagesKept_6 : decode cX9_imagesKept 6 = .ok (.if_icmp .ge 24, 3) := by decide +kernel
theorem dX9_imagesKept_9 : decode cX9_imagesKept 9 = .ok (.aload_n 0, 1) := by decide +kernel
theorem dX9_imagesKept_10 : decode cX9_imagesKept 10 = .ok (.getfield 30, 3) := by decide +kernel
theorem dX9_imagesKept_13 : decode cX9_imagesKept 13 = .ok (.iload_n 2, 1) := by decide +kernel
theorem dX9_imagesKept_14 : decode cX9_imagesKept 14 = .ok (.aaload, 1) := by decide +kernel
theorem dX9_imagesKept_15 : decode cX9_imagesKept 15 = .ok (.ifnull 9, 3) := by decide +kernel
theorem dX9_imagesKept_18 : decode cX9_imagesKept 18 = .ok (.iload_n 1, 1) := by decide +kernel
theorem dX9_imagesKept_19 : decode cX9_imagesKept 19 = .ok (.iconst 1, 1) := by decide +kernel
theorem dX9_imagesKept_20 : decode cX9_imagesKept 20 = .ok (.iload_n 2, 1) := by decide +kernel
theorem dX9_imagesKept_21 : decode cX9_imagesKept 21 = .ok (.ishl, 1) := by decide +kernel
theorem dX9_imagesKept_22 : decode cX9_imagesKept 22 = .ok (.ior, 1) := by decide +kernel
theorem dX9_imagesKept_23 : decode cX9_imagesKept 23 = .ok (.istore_n 1, 1) := by decide +kernel
theorem dX9_imagesKept_24 : decode cX9_imagesKept 24 = .ok (.iinc 2 1, 3) := by decide +kernel
theorem dX9_imagesKept_27 : decode cX9_imagesKept 27 = .ok (.goto (-23), 3) := by decide +kernel
theorem dX9_imagesKept_30 : decode cX9_imagesKept 30 = .ok (.iload_n 1, 1) := by decide +kernel
theorem dX9_imagesKept_31 : decode cX9_imagesKept 31 = .ok (.ireturn, 1) := by decide +kernel
theorem dX9_isStation_0 : decode cX9_isStation 0 = .ok (.iload_n 0, 1) := by decide +kernel
theorem dX9_isStation_1 : decode cX9_isStation 1 = .ok (.ifCond .lt 13, 3) := by decide +kernel
theorem dX9_isStation_4 : decode cX9_isStation 4 = .ok (.iload_n 0, 1) := by decide +kernel
theorem dX9_isStation_5 : decode cX9_isStation 5 = .ok (.bipush 6, 2) := by decide +kernel
theorem dX9_isStation_7 : decode cX9_isStation 7 = .ok (.if_icmp .ge 7, 3) := by decide +kernel
theorem dX9_isStation_10 : decode cX9_isStation 10 = .ok (.iconst 1, 1) := by decide +kernel
theorem dX9_isStation_11 : decode cX9_isStation 11 = .ok (.goto 4, 3) := by decide +kernel
theorem dX9_isStation_14 : decode cX9_isStation 14 = .ok (.iconst 0, 1) := by decide +kernel
theorem dX9_isStation_15 : decode cX9_isStation 15 = .ok (.ireturn, 1) := by decide +kernel
theorem dX9_isHops_0 : decode cX9_isHops 0 = .ok (.iload_n 0, 1) := by decide +kernel
theorem dX9_isHops_1 : decode cX9_isHops 1 = .ok (.iconst 1, 1) := by decide +kernel
theorem dX9_isHops_2 : decode cX9_isHops 2 = .ok (.if_icmp .lt 13, 3) := by decide +kernel
theorem dX9_isHops_5 : decode cX9_isHops 5 = .ok (.iload_n 0, 1) := by decide +kernel
theorem dX9_isHops_6 : decode cX9_isHops 6 = .ok (.bipush 7, 2) := by decide +kernel
theorem dX9_isHops_8 : decode cX9_isHops 8 = .ok (.if_icmp .gt 7, 3) := by decide +kernel
theorem dX9_isHops_11 : decode cX9_isHops 11 = .ok (.iconst 1, 1) := by decide +kernel
theorem dX9_isHops_12 : decode cX9_isHops 12 = .ok (.goto 4, 3) := by decide +kernel
theorem dX9_isHops_15 : decode cX9_isHops 15 = .ok (.iconst 0, 1) := by decide +kernel
theorem dX9_isHops_16 : decode cX9_isHops 16 = .ok (.ireturn, 1) := by decide +kernel
theorem dX9_isIn_0 : decode cX9_isIn 0 = .ok (.iload_n 0, 1) := by decide +kernel
theorem dX9_isIn_1 : decode cX9_isIn 1 = .ok (.iload_n 1, 1) := by decide +kernel
theorem dX9_isIn_2 : decode cX9_isIn 2 = .ok (.ishr, 1) := by decide +kernel
theorem dX9_isIn_3 : decode cX9_isIn 3 = .ok (.iconst 1, 1) := by decide +kernel
theorem dX9_isIn_4 : decode cX9_isIn 4 = .ok (.iand, 1) := by decide +kernel
theorem dX9_isIn_5 : decode cX9_isIn 5 = .ok (.ifCond .eq 7, 3) := by decide +kernel
theorem dX9_isIn_8 : decode cX9_isIn 8 = .ok (.iconst 1, 1) := by decide +kernel
theorem dX9_isIn_9 : decode cX9_isIn 9 = .ok (.goto 4, 3) := by decide +kernel
theorem dX9_isIn_12 : decode cX9_isIn 12 = .ok (.iconst 0, 1) := by decide +kernel
theorem dX9_isIn_13 : decode cX9_isIn 13 = .ok (.ireturn, 1) := by decide +kernel
theorem dX9_isSetting_0 : decode cX9_isSetting 0 = .ok (.iload_n 0, 1) := by decide +kernel
theorem dX9_isSetting_1 : decode cX9_isSetting 1 = .ok (.tableswitch 76 0 2 #[27, 44, 60], 27) := by decide +kernel
theorem dX9_isSetting_28 : decode cX9_isSetting 28 = .ok (.iload_n 1, 1) := by decide +kernel
theorem dX9_isSetting_29 : decode cX9_isSetting 29 = .ok (.iconst 1, 1) := by decide +kernel
theorem dX9_isSetting_30 : decode cX9_isSetting 30 = .ok (.if_icmp .lt 13, 3) := by decide +kernel
theorem dX9_isSetting_33 : decode cX9_isSetting 33 = .ok (.iload_n 1, 1) := by decide +kernel
theorem dX9_isSetting_34 : decode cX9_isSetting 34 = .ok (.bipush 7, 2) := by decide +kernel
theorem dX9_isSetting_36 : decode cX9_isSetting 36 = .ok (.if_icmp .gt 7, 3) := by decide +kernel
theorem dX9_isSetting_39 : decode cX9_isSetting 39 = .ok (.iconst 1, 1) := by decide +kernel
theorem dX9_isSetting_40 : decode cX9_isSetting 40 = .ok (.goto 4, 3) := by decide +kernel
theorem dX9_isSetting_43 : decode cX9_isSetting 43 = .ok (.iconst 0, 1) := by decide +kernel
theorem dX9_isSetting_44 : decode cX9_isSetting 44 = .ok (.ireturn, 1) := by decide +kernel
theorem dX9_isSetting_45 : decode cX9_isSetting 45 = .ok (.iload_n 1, 1) := by decide +kernel
theorem dX9_isSetting_46 : decode cX9_isSetting 46 = .ok (.iconst 1, 1) := by decide +kernel
theorem dX9_isSetting_47 : decode cX9_isSetting 47 = .ok (.if_icmp .lt 12, 3) := by decide +kernel
theorem dX9_isSetting_50 : decode cX9_isSetting 50 = .ok (.iload_n 1, 1) := by decide +kernel
theorem dX9_isSetting_51 : decode cX9_isSetting 51 = .ok (.iconst 3, 1) := by decide +kernel
theorem dX9_isSetting_52 : decode cX9_isSetting 52 = .ok (.if_icmp .gt 7, 3) := by decide +kernel
theorem dX9_isSetting_55 : decode cX9_isSetting 55 = .ok (.iconst 1, 1) := by decide +kernel
theorem dX9_isSetting_56 : decode cX9_isSetting 56 = .ok (.goto 4, 3) := by decide +kernel
theorem dX9_isSetting_59 : decode cX9_isSetting 59 = .ok (.iconst 0, 1) := by decide +kernel
theorem dX9_isSetting_60 : decode cX9_isSetting 60 = .ok (.ireturn, 1) := by decide +kernel
theorem dX9_isSetting_61 : decode cX9_isSetting 61 = .ok (.iload_n 1, 1) := by decide +kernel
theorem dX9_isSetting_62 : decode cX9_isSetting 62 = .ok (.ifCond .lt 13, 3) := by decide +kernel
theorem dX9_isSetting_65 : decode cX9_isSetting 65 = .ok (.iload_n 1, 1) := by decide +kernel
theorem dX9_isSetting_66 : decode cX9_isSetting 66 = .ok (.bipush 60, 2) := by decide +kernel
theorem dX9_isSetting_68 : decode cX9_isSetting 68 = .ok (.if_icmp .gt 7, 3) := by decide +kernel
theorem dX9_isSetting_71 : decode cX9_isSetting 71 = .ok (.iconst 1, 1) := by decide +kernel
theorem dX9_isSetting_72 : decode cX9_isSetting 72 = .ok (.goto 4, 3) := by decide +kernel
theorem dX9_isSetting_75 : decode cX9_isSetting 75 = .ok (.iconst 0, 1) := by decide +kernel
theorem dX9_isSetting_76 : decode cX9_isSetting 76 = .ok (.ireturn, 1) := by decide +kernel
theorem dX9_isSetting_77 : decode cX9_isSetting 77 = .ok (.iconst 0, 1) := by decide +kernel
theorem dX9_isSetting_78 : decode cX9_isSetting 78 = .ok (.ireturn, 1) := by decide +kernel
theorem dX10_init_0 : decode cX10_init 0 = .ok (.aload_n 0, 1) := by decide +kernel
theorem dX10_init_1 : decode cX10_init 1 = .ok (.invokespecial 1, 3) := by decide +kernel
theorem dX10_init_4 : decode cX10_init 4 = .ok (.aload_n 0, 1) := by decide +kernel
theorem dX10_init_5 : decode cX10_init 5 = .ok (.sipush 1387, 3) := by decide +kernel
theorem dX10_init_8 : decode cX10_init 8 = .ok (.newarray .int, 2) := by decide +kernel
theorem dX10_init_10 : decode cX10_init 10 = .ok (.putfield 7, 3) := by decide +kernel
theorem dX10_init_13 : decode cX10_init 13 = .ok (.aload_n 0, 1) := by decide +kernel
theorem dX10_init_14 : decode cX10_init 14 = .ok (.sipush 4161, 3) := by decide +kernel
theorem dX10_init_17 : decode cX10_init 17 = .ok (.newarray .int, 2) := by decide +kernel
theorem dX10_init_19 : decode cX10_init 19 = .ok (.putfield 13, 3) := by decide +kernel
theorem dX10_init_22 : decode cX10_init 22 = .ok (.aload_n 0, 1) := by decide +kernel
theorem dX10_init_23 : decode cX10_init 23 = .ok (.iconst 2, 1) := by decide +kernel
theorem dX10_init_24 : decode cX10_init 24 = .ok (.newarray .boolean, 2) := by decide +kernel
theorem dX10_init_26 : decode cX10_init 26 = .ok (.putfield 16, 3) := by decide +kernel
theorem dX10_init_29 : decode cX10_init 29 = .ok (.aload_n 0, 1) := by decide +kernel
theorem dX10_init_30 : decode cX10_init 30 = .ok (.bipush 40, 2) := by decide +kernel
theorem dX10_init_32 : decode cX10_init 32 = .ok (.newarray .int, 2) := by decide +kernel
theorem dX10_init_34 : decode cX10_init 34 = .ok (.putfield 20, 3) := by decide +kernel
theorem dX10_init_37 : decode cX10_init 37 = .ok (.aload_n 0, 1) := by decide +kernel
theorem dX10_init_38 : decode cX10_init 38 = .ok (.bipush 11, 2) := by decide +kernel
theorem dX10_init_40 : decode cX10_init 40 = .ok (.newarray .int, 2) := by decide +kernel
theorem dX10_init_42 : decode cX10_init 42 = .ok (.putfield 23, 3) := by decide +kernel
theorem dX10_init_45 : decode cX10_init 45 = .ok (.aload_n 0, 1) := by decide +kernel
theorem dX10_init_46 : decode cX10_init 46 = .ok (.bipush 66, 2) := by decide +kernel
theorem dX10_init_48 : decode cX10_init 48 = .ok (.newarray .int, 2) := by decide +kernel
theorem dX10_init_50 : decode cX10_init 50 = .ok (.putfield 26, 3) := by decide +kernel
theorem dX10_init_53 : decode cX10_init 53 = .ok (.aload_n 0, 1) := by decide +kernel
theorem dX10_init_54 : decode cX10_init 54 = .ok (.bipush 6, 2) := by decide +kernel
theorem dX10_init_56 : decode cX10_init 56 = .ok (.newarray .boolean, 2) := by decide +kernel
theorem dX10_init_58 : decode cX10_init 58 = .ok (.putfield 29, 3) := by decide +kernel
theorem dX10_init_61 : decode cX10_init 61 = .ok (.aload_n 0, 1) := by decide +kernel
theorem dX10_init_62 : decode cX10_init 62 = .ok (.bipush 6, 2) := by decide +kernel
theorem dX10_init_64 : decode cX10_init 64 = .ok (.newarray .int, 2) := by decide +kernel
theorem dX10_init_66 : decode cX10_init 66 = .ok (.putfield 32, 3) := by decide +kernel
theorem dX10_init_69 : decode cX10_init 69 = .ok (.aload_n 0, 1) := by decide +kernel
theorem dX10_init_70 : decode cX10_init 70 = .ok (.bipush 6, 2) := by decide +kernel
theorem dX10_init_72 : decode cX10_init 72 = .ok (.newarray .int, 2) := by decide +kernel
theorem dX10_init_74 : decode cX10_init 74 = .ok (.putfield 35, 3) := by decide +kernel
theorem dX10_init_77 : decode cX10_init 77 = .ok (.aload_n 0, 1) := by decide +kernel
theorem dX10_init_78 : decode cX10_init 78 = .ok (.bipush 80, 2) := by decide +kernel
theorem dX10_init_80 : decode cX10_init 80 = .ok (.newarray .int, 2) := by decide +kernel
theorem dX10_init_82 : decode cX10_init 82 = .ok (.putfield 38, 3) := by decide +kernel
theorem dX10_init_85 : decode cX10_init 85 = .ok (.iconst 0, 1) := by decide +kernel
theorem dX10_init_86 : decode cX10_init 86 = .ok (.istore_n 1, 1) := by decide +kernel
theorem dX10_init_87 : decode cX10_init 87 = .ok (.iload_n 1, 1) := by decide +kernel
theorem dX10_init_88 : decode cX10_init 88 = .ok (.bipush 6, 2) := by decide +kernel
theorem dX10_init_90 : decode cX10_init 90 = .ok (.if_icmp .ge 63, 3) := by decide +kernel
theorem dX10_init_93 : decode cX10_init 93 = .ok (.aload_n 0, 1) := by decide +kernel
theorem dX10_init_94 : decode cX10_init 94 = .ok (.getfield 7, 3) := by decide +kernel
theorem dX10_init_97 : decode cX10_init 97 = .ok (.iconst 0, 1) := by decide +kernel
theorem dX10_init_98 : decode cX10_init 98 = .ok (.iload_n 1, 1) := by decide +kernel
theorem dX10_init_99 : decode cX10_init 99 = .ok (.iadd, 1) := by decide +kernel
theorem dX10_init_100 : decode cX10_init 100 = .ok (.iconst 1, 1) := by decide +kernel
theorem dX10_init_101 : decode cX10_init 101 = .ok (.iload_n 1, 1) := by decide +kernel
theorem dX10_init_102 : decode cX10_init 102 = .ok (.iadd, 1) := by decide +kernel
theorem dX10_init_103 : decode cX10_init 103 = .ok (.iastore, 1) := by decide +kernel
theorem dX10_init_104 : decode cX10_init 104 = .ok (.aload_n 0, 1) := by decide +kernel
theorem dX10_init_105 : decode cX10_init 105 = .ok (.getfield 7, 3) := by decide +kernel
theorem dX10_init_108 : decode cX10_init 108 = .ok (.bipush 42, 2) := by decide +kernel
theorem dX10_init_110 : decode cX10_init 110 = .ok (.iload_n 1, 1) := by decide +kernel
theorem dX10_init_111 : decode cX10_init 111 = .ok (.iadd, 1) := by decide +kernel
theorem dX10_init_112 : decode cX10_init 112 = .ok (.iconst 3, 1) := by decide +kernel
theorem dX10_init_113 : decode cX10_init 113 = .ok (.iastore, 1) := by decide +kernel
theorem dX10_init_114 : decode cX10_init 114 = .ok (.aload_n 0, 1) := by decide +kernel
theorem dX10_init_115 : decode cX10_init 115 = .ok (.getfield 7, 3) := by decide +kernel
theorem dX10_init_118 : decode cX10_init 118 = .ok (.bipush 48, 2) := by decide +kernel
theorem dX10_init_120 : decode cX10_init 120 = .ok (.iload_n 1, 1) := by decide +kernel
theorem dX10_init_121 : decode cX10_init 121 = .ok (.iadd, 1) := by decide +kernel
theorem dX10_init_122 : decode cX10_init 122 = .ok (.iconst 1, 1) := by decide +kernel
theorem dX10_init_123 : decode cX10_init 123 = .ok (.iastore, 1) := by decide +kernel
theorem dX10_init_124 : decode cX10_init 124 = .ok (.aload_n 0, 1) := by decide +kernel
theorem dX10_init_125 : decode cX10_init 125 = .ok (.getfield 7, 3) := by decide +kernel
theorem dX10_init_128 : decode cX10_init 128 = .ok (.bipush 54, 2) := by decide +kernel
theorem dX10_init_130 : decode cX10_init 130 = .ok (.iload_n 1, 1) := by decide +kernel
theorem dX10_init_131 : decode cX10_init 131 = .ok (.iadd, 1) := by decide +kernel
theorem dX10_init_132 : decode cX10_init 132 = .ok (.bipush 10, 2) := by decide +kernel
theorem dX10_init_134 : decode cX10_init 134 = .ok (.iastore, 1) := by decide +kernel
theorem dX10_init_135 : decode cX10_init 135 = .ok (.aload_n 0, 1) := by decide +kernel
theorem dX10_init_136 : decode cX10_init 136 = .ok (.getfield 7, 3) := by decide +kernel
theorem dX10_init_139 : decode cX10_init 139 = .ok (.sipush 1380, 3) := by decide +kernel
theorem dX10_init_142 : decode cX10_init 142 = .ok (.iload_n 1, 1) := by decide +kernel
theorem dX10_init_143 : decode cX10_init 143 = .ok (.iadd, 1) := by decide +kernel
theorem dX10_init_144 : decode cX10_init 144 = .ok (.bipush (-6), 2) := by decide +kernel
theorem dX10_init_146 : decode cX10_init 146 = .ok (.iastore, 1) := by decide +kernel
theorem dX10_init_147 : decode cX10_init 147 = .ok (.iinc 1 1, 3) := by decide +kernel
theorem dX10_init_150 : decode cX10_init 150 = .ok (.goto (-63), 3) := by decide +kernel
theorem dX10_init_153 : decode cX10_init 153 = .ok (.return_, 1) := by decide +kernel
theorem dX10_in_0 : decode cX10_in 0 = .ok (.iload_n 0, 1) := by decide +kernel
theorem dX10_in_1 : decode cX10_in 1 = .ok (.iload_n 1, 1) := by decide +kernel
theorem dX10_in_2 : decode cX10_in 2 = .ok (.if_icmp .lt 12, 3) := by decide +kernel
theorem dX10_in_5 : decode cX10_in 5 = .ok (.iload_n 0, 1) := by decide +kernel
theorem dX10_in_6 : decode cX10_in 6 = .ok (.iload_n 2, 1) := by decide +kernel
theorem dX10_in_7 : decode cX10_in 7 = .ok (.if_icmp .gt 7, 3) := by decide +kernel
theorem dX10_in_10 : decode cX10_in 10 = .ok (.iconst 1, 1) := by decide +kernel
theorem dX10_in_11 : decode cX10_in 11 = .ok (.goto 4, 3) := by decide +kernel
theorem dX10_in_14 : decode cX10_in 14 = .ok (.iconst 0, 1) := by decide +kernel
theorem dX10_in_15 : decode cX10_in 15 = .ok (.ireturn, 1) := by decide +kernel
theorem dX10_isStation_0 : decode cX10_isStation 0 = .ok (.iload_n 0, 1) := by decide +kernel
theorem dX10_isStation_1 : decode cX10_isStation 1 = .ok (.iconst 0, 1) := by decide +kernel
theorem dX10_isStation_2 : decode cX10_isStation 2 = .ok (.iconst 5, 1) := by decide +kernel
theorem dX10_isStation_3 : decode cX10_isStation 3 = .ok (.invokestatic 41, 3) := by decide +kernel
theorem dX10_isStation_6 : decode cX10_isStation 6 = .ok (.ireturn, 1) := by decide +kernel
theorem dX10_say_0 : decode cX10_say 0 = .ok (.iload_n 1, 1) := by decide +kernel
theorem dX10_say_1 : decode cX10_say 1 = .ok (.bipush 33, 2) := by decide +kernel
theorem dX10_say_3 : decode cX10_say 3 = .ok (.bipush 126, 2) := by decide +kernel
theorem dX10_say_5 : decode cX10_say 5 = .ok (.invokestatic 41, 3) := by decide +kernel
theorem dX10_say_8 : decode cX10_say 8 = .ok (.ifCond .ne 6, 3) := by decide +kernel
theorem dX10_say_11 : decode cX10_say 11 = .ok (.bipush (-2), 2) := by decide +kernel
theorem dX10_say_13 : decode cX10_say 13 = .ok (.ireturn, 1) := by decide +kernel
theorem dX10_say_14 : decode cX10_say 14 = .ok (.aload_n 0, 1) := by decide +kernel
theorem dX10_say_15 : decode cX10_say 15 = .ok (.getfield 45, 3) := by decide +kernel
theorem dX10_say_18 : decode cX10_say 18 = .ok (.bipush 40, 2) := by decide +kernel
theorem dX10_say_20 : decode cX10_say 20 = .ok (.if_icmp .ne 6, 3) := by decide +kernel
theorem dX10_say_23 : decode cX10_say 23 = .ok (.bipush (-4), 2) := by decide +kernel
theorem dX10_say_25 : decode cX10_say 25 = .ok (.ireturn, 1) := by decide +kernel
theorem dX10_say_26 : decode cX10_say 26 = .ok (.aload_n 0, 1) := by decide +kernel
theorem dX10_say_27 : decode cX10_say 27 = .ok (.getfield 20, 3) := by decide +kernel
theorem dX10_say_30 : decode cX10_say 30 = .ok (.aload_n 0, 1) := by decide +kernel
theorem dX10_say_31 : decode cX10_say 31 = .ok (.getfield 45, 3) := by decide +kernel
theorem dX10_say_34 : decode cX10_say 34 = .ok (.iload_n 1, 1) := by decide +kernel
theorem dX10_say_35 : decode cX10_say 35 = .ok (.iastore, 1) := by decide +kernel
theorem dX10_say_36 : decode cX10_say 36 = .ok (.aload_n 0, 1) := by decide +kernel
theorem dX10_say_37 : decode cX10_say 37 = .ok (.dup, 1) := by decide +kernel
theorem dX10_say_38 : decode cX10_say 38 = .ok (.getfield 45, 3) := by decide +kernel
theorem dX10_say_41 : decode cX10_say 41 = .ok (.iconst 1, 1) := by decide +kernel
theorem dX10_say_42 : decode cX10_say 42 = .ok (.iadd, 1) := by decide +kernel
theorem dX10_say_43 : decode cX10_say 43 = .ok (.putfield 45, 3) := by decide +kernel
theorem dX10_say_46 : decode cX10_say 46 = .ok (.aload_n 0, 1) := by decide +kernel
theorem dX10_say_47 : decode cX10_say 47 = .ok (.getfield 45, 3) := by decide +kernel
theorem dX10_say_50 : decode cX10_say 50 = .ok (.ireturn, 1) := by decide +kernel
theorem dX10_wipe_0 : decode cX10_wipe 0 = .ok (.aload_n 0, 1) := by decide +kernel
theorem dX10_wipe_1 : decode cX10_wipe 1 = .ok (.getfield 45, 3) := by decide +kernel
theorem dX10_wipe_4 : decode cX10_wipe 4 = .ok (.istore_n 1, 1) := by decide +kernel
theorem dX10_wipe_5 : decode cX10_wipe 5 = .ok (.aload_n 0, 1) := by decide +kernel
theorem dX10_wipe_6 : decode cX10_wipe 6 = .ok (.iconst 0, 1) := by decide +kernel
theorem dX10_wipe_7 : decode cX10_wipe 7 = .ok (.putfield 45, 3) := by decide +kernel
theorem dX10_wipe_10 : decode cX10_wipe 10 = .ok (.iload_n 1, 1) := by decide +kernel
theorem dX10_wipe_11 : decode cX10_wipe 11 = .ok (.ireturn, 1) := by decide +kernel
theorem dX10_isAt_0 : decode cX10_isAt 0 = .ok (.aload_n 0, 1) := by decide +kernel
theorem dX10_isAt_1 : decode cX10_isAt 1 = .ok (.getfield 49, 3) := by decide +kernel
theorem dX10_isAt_4 : decode cX10_isAt 4 = .ok (.aload_n 0, 1) := by decide +kernel
theorem dX10_isAt_5 : decode cX10_isAt 5 = .ok (.getfield 45, 3) := by decide +kernel
theorem dX10_isAt_8 : decode cX10_isAt 8 = .ok (.if_icmp .ge 20, 3) := by decide +kernel
theorem dX10_isAt_11 : decode cX10_isAt 11 = .ok (.aload_n 0, 1) := by decide +kernel
theorem dX10_isAt_12 : decode cX10_isAt 12 = .ok (.getfield 20, 3) := by decide +kernel
theorem dX10_isAt_15 : decode cX10_isAt 15 = .ok (.aload_n 0, 1) := by decide +kernel
theorem dX10_isAt_16 : decode cX10_isAt 16 = .ok (.getfield 49, 3) := by decide +kernel
theorem dX10_isAt_19 : decode cX10_isAt 19 = .ok (.iaload, 1) := by decide +kernel
theorem dX10_isAt_20 : decode cX10_isAt 20 = .ok (.iload_n 1, 1) := by decide +kernel
theorem dX10_isAt_21 : decode cX10_isAt 21 = .ok (.if_icmp .ne 7, 3) := by decide +kernel
theorem dX10_isAt_24 : decode cX10_isAt 24 = .ok (.iconst 1, 1) := by decide +kernel
theorem dX10_isAt_25 : decode cX10_isAt 25 = .ok (.goto 4, 3) := by decide +kernel
theorem dX10_isAt_28 : decode cX10_isAt 28 = .ok (.iconst 0, 1) := by decide +kernel
theorem dX10_isAt_29 : decode cX10_isAt 29 = .ok (.ireturn, 1) := by decide +kernel
theorem dX10_isLetter_0 : decode cX10_isLetter 0 = .ok (.aload_n 0, 1) := by decide +kernel
theorem dX10_isLetter_1 : decode cX10_isLetter 1 = .ok (.getfield 49, 3) := by decide +kernel
theorem dX10_isLetter_4 : decode cX10_isLetter 4 = .ok (.aload_n 0, 1) := by decide +kernel
theorem dX10_isLetter_5 : decode cX10_isLetter 5 = .ok (.getfield 45, 3) := by decide +kernel
theorem dX10_isLetter_8 : decode cX10_isLetter 8 = .ok (.if_icmp .ge 27, 3) := by decide +kernel
theorem dX10_isLetter_11 : decode cX10_isLetter 11 = .ok (.aload_n 0, 1) := by decide +kernel
theorem dX10_isLetter_12 : decode cX10_isLetter 12 = .ok (.getfield 20, 3) := by decide +kernel
theorem dX10_isLetter_15 : decode cX10_isLetter 15 = .ok (.aload_n 0, 1) := by decide +kernel
theorem dX10_isLetter_16 : decode cX10_isLetter 16 = .ok (.getfield 49, 3) := by decide +kernel
theorem dX10_isLetter_19 : decode cX10_isLetter 19 = .ok (.iaload, 1) := by decide +kernel
theorem dX10_isLetter_20 : decode cX10_isLetter 20 = .ok (.iload_n 1, 1) := by decide +kernel
theorem dX10_isLetter_21 : decode cX10_isLetter 21 = .ok (.iload_n 1, 1) := by decide +kernel
theorem dX10_isLetter_22 : decode cX10_isLetter 22 = .ok (.bipush 25, 2) := by decide +kernel
theorem dX10_isLetter_24 : decode cX10_isLetter 24 = .ok (.iadd, 1) := by decide +kernel
theorem dX10_isLetter_25 : decode cX10_isLetter 25 = .ok (.invokestatic 41, 3) := by decide +kernel
theorem dX10_isLetter_28 : decode cX10_isLetter 28 = .ok (.ifCond .eq 7, 3) := by decide +kernel
theorem dX10_isLetter_31 : decode cX10_isLetter 31 = .ok (.iconst 1, 1) := by decide +kernel
theorem dX10_isLetter_32 : decode cX10_isLetter 32 = .ok (.goto 4, 3) := by decide +kernel
theorem dX10_isLetter_35 : decode cX10_isLetter 35 = .ok (.iconst 0, 1) := by decide +kernel
theorem dX10_isLetter_36 : decode cX10_isLetter 36 = .ok (.ireturn, 1) := by decide +kernel
theorem dX10_readLetters_0 : decode cX10_readLetters 0 = .ok (.iconst 0, 1) := by decide +kernel
theorem dX10_readLetters_1 : decode cX10_readLetters 1 = .ok (.istore_n 3, 1) := by decide +kernel
theorem dX10_readLetters_2 : decode cX10_readLetters 2 = .ok (.iconst 0, 1) := by decide +kernel
theorem dX10_readLetters_3 : decode cX10_readLetters 3 = .ok (.istore 4, 2) := by decide +kernel
theorem dX10_readLetters_5 : decode cX10_readLetters 5 = .ok (.iload 4, 2) := by decide +kernel
theorem dX10_readLetters_7 : decode cX10_readLetters 7 = .ok (.iload_n 2, 1) := by decide +kernel
theorem dX10_readLetters_8 : decode cX10_readLetters 8 = .ok (.if_icmp .ge 46, 3) := by decide +kernel
theorem dX10_readLetters_11 : decode cX10_readLetters 11 = .ok (.aload_n 0, 1) := by decide +kernel
theorem dX10_readLetters_12 : decode cX10_readLetters 12 = .ok (.iload_n 1, 1) := by decide +kernel
theorem dX10_readLetters_13 : decode cX10_readLetters 13 = .ok (.invokevirtual 52, 3) := by decide +kernel
theorem dX10_readLetters_16 : decode cX10_readLetters 16 = .ok (.ifCond .eq 38, 3) := by decide +kernel
theorem dX10_readLetters_19 : decode cX10_readLetters 19 = .ok (.bipush 27, 2) := by decide +kernel
theorem dX10_readLetters_21 : decode cX10_readLetters 21 = .ok (.iload_n 3, 1) := by decide +kernel
theorem dX10_readLetters_22 : decode cX10_readLetters 22 = .ok (.imul, 1) := by decide +kernel
theorem dX10_readLetters_23 : decode cX10_readLetters 23 = .ok (.aload_n 0, 1) := by decide +kernel
theorem dX10_readLetters_24 : decode cX10_readLetters 24 = .ok (.getfield 20, 3) := by decide +kernel
theorem dX10_readLetters_27 : decode cX10_readLetters 27 = .ok (.aload_n 0, 1) := by decide +kernel
theorem dX10_readLetters_28 : decode cX10_readLetters 28 = .ok (.getfield 49, 3) := by decide +kernel
theorem dX10_readLetters_31 : decode cX10_readLetters 31 = .ok (.iaload, 1) := by decide +kernel
theorem dX10_readLetters_32 : decode cX10_readLetters 32 = .ok (.iadd, 1) := by decide +kernel
theorem dX10_readLetters_33 : decode cX10_readLetters 33 = .ok (.iload_n 1, 1) := by decide +kernel
theorem dX10_readLetters_34 : decode cX10_readLetters 34 = .ok (.isub, 1) := by decide +kernel
theorem dX10_readLetters_35 : decode cX10_readLetters 35 = .ok (.iconst 1, 1) := by decide +kernel
theorem dX10_readLetters_36 : decode cX10_readLetters 36 = .ok (.iadd, 1) := by decide +kernel
theorem dX10_readLetters_37 : decode cX10_readLetters 37 = .ok (.istore_n 3, 1) := by decide +kernel
theorem dX10_readLetters_38 : decode cX10_readLetters 38 = .ok (.iinc 4 1, 3) := by decide +kernel
theorem dX10_readLetters_41 : decode cX10_readLetters 41 = .ok (.aload_n 0, 1) := by decide +kernel
theorem dX10_readLetters_42 : decode cX10_readLetters 42 = .ok (.dup, 1) := by decide +kernel
theorem dX10_readLetters_43 : decode cX10_readLetters 43 = .ok (.getfield 49, 3) := by decide +kernel
theorem dX10_readLetters_46 : decode cX10_readLetters 46 = .ok (.iconst 1, 1) := by decide +kernel
theorem dX10_readLetters_47 : decode cX10_readLetters 47 = .ok (.iadd, 1) := by decide +kernel
theorem dX10_readLetters_48 : decode cX10_readLetters 48 = .ok (.putfield 49, 3) := by decide +kernel
theorem dX10_readLetters_51 : decode cX10_readLetters 51 = .ok (.goto (-46), 3) := by decide +kernel
theorem dX10_readLetters_54 : decode cX10_readLetters 54 = .ok (.aload_n 0, 1) := by decide +kernel
theorem dX10_readLetters_55 : decode cX10_readLetters 55 = .ok (.aload_n 0, 1) := by decide +kernel
theorem dX10_readLetters_56 : decode cX10_readLetters 56 = .ok (.getfield 56, 3) := by decide +kernel
theorem dX10_readLetters_59 : decode cX10_readLetters 59 = .ok (.ifCond .ne 8, 3) := by decide +kernel
theorem dX10_readLetters_62 : decode cX10_readLetters 62 = .ok (.iload 4, 2) := by decide +kernel
theorem dX10_readLetters_64 : decode cX10_readLetters 64 = .ok (.ifCond .ne 7, 3) := by decide +kernel
theorem dX10_readLetters_67 : decode cX10_readLetters 67 = .ok (.iconst 1, 1) := by decide +kernel
theorem dX10_readLetters_68 : decode cX10_readLetters 68 = .ok (.goto 4, 3) := by decide +kernel
theorem dX10_readLetters_71 : decode cX10_readLetters 71 = .ok (.iconst 0, 1) := by decide +kernel
theorem dX10_readLetters_72 : decode cX10_readLetters 72 = .ok (.putfield 56, 3) := by decide +kernel
theorem dX10_readLetters_75 : decode cX10_readLetters 75 = .ok (.iload_n 3, 1) := by decide +kernel
theorem dX10_readLetters_76 : decode cX10_readLetters 76 = .ok (.ireturn, 1) := by decide +kernel
theorem dX10_readSign_0 : decode cX10_readSign 0 = .ok (.aload_n 0, 1) := by decide +kernel
theorem dX10_readSign_1 : decode cX10_readSign 1 = .ok (.getfield 56, 3) := by decide +kernel
theorem dX10_readSign_4 : decode cX10_readSign 4 = .ok (.ifCond .ne 41, 3) := by decide +kernel
theorem dX10_readSign_7 : decode cX10_readSign 7 = .ok (.aload_n 0, 1) := by decide +kernel
theorem dX10_readSign_8 : decode cX10_readSign 8 = .ok (.aload_n 0, 1) := by decide +kernel
theorem dX10_readSign_9 : decode cX10_readSign 9 = .ok (.iload_n 1, 1) := by decide +kernel
theorem dX10_readSign_10 : decode cX10_readSign 10 = .ok (.invokevirtual 60, 3) := by decide +kernel
theorem dX10_readSign_13 : decode cX10_readSign 13 = .ok (.ifCond .ne 7, 3) := by decide +kernel
theorem dX10_readSign_16 : decode cX10_readSign 16 = .ok (.iconst 1, 1) := by decide +kernel
theorem dX10_readSign_17 : decode cX10_readSign 17 = .ok (.goto 4, 3) := by decide +kernel
