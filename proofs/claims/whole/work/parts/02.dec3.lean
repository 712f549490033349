theorem dX10_readSign_20 : decode cX10_readSign 20 = .ok (.iconst 0, 1) := by decide +kernel
theorem dX10_readSign_21 : decode cX10_readSign 21 = .ok (.putfield 56, 3) := by decide +kernel
theorem dX10_readSign_24 : decode cX10_readSign 24 = .ok (.aload_n 0, 1) := by decide +kernel
theorem dX10_readSign_25 : decode cX10_readSign 25 = .ok (.dup, 1) := by decide +kernel
theorem dX10_readSign_26 : decode cX10_readSign 26 = .ok (.getfield 49, 3) := by decide +kernel
theorem dX10_readSign_29 : decode cX10_readSign 29 = .ok (.aload_n 0, 1) := by decide +kernel
theorem dX10_readSign_30 : decode cX10_readSign 30 = .ok (.getfield 56, 3) := by decide +kernel
theorem dX10_readSign_33 : decode cX10_readSign 33 = .ok (.ifCond .eq 7, 3) := by decide +kernel
theorem dX10_readSign_36 : decode cX10_readSign 36 = .ok (.iconst 0, 1) := by decide +kernel
theorem dX10_readSign_37 : decode cX10_readSign 37 = .ok (.goto 4, 3) := by decide +kernel
theorem dX10_readSign_40 : decode cX10_readSign 40 = .ok (.iconst 1, 1) := by decide +kernel
theorem dX10_readSign_41 : decode cX10_readSign 41 = .ok (.iadd, 1) := by decide +kernel
theorem dX10_readSign_42 : decode cX10_readSign 42 = .ok (.putfield 49, 3) := by decide +kernel
theorem dX10_readSign_45 : decode cX10_readSign 45 = .ok (.return_, 1) := by decide +kernel
theorem dX10_readWord_0 : decode cX10_readWord 0 = .ok (.aload_n 0, 1) := by decide +kernel
theorem dX10_readWord_1 : decode cX10_readWord 1 = .ok (.bipush 65, 2) := by decide +kernel
theorem dX10_readWord_3 : decode cX10_readWord 3 = .ok (.iconst 3, 1) := by decide +kernel
theorem dX10_readWord_4 : decode cX10_readWord 4 = .ok (.invokevirtual 63, 3) := by decide +kernel
theorem dX10_readWord_7 : decode cX10_readWord 7 = .ok (.istore_n 1, 1) := by decide +kernel
theorem dX10_readWord_8 : decode cX10_readWord 8 = .ok (.iconst 0, 1) := by decide +kernel
theorem dX10_readWord_9 : decode cX10_readWord 9 = .ok (.istore_n 2, 1) := by decide +kernel
theorem dX10_readWord_10 : decode cX10_readWord 10 = .ok (.aload_n 0, 1) := by decide +kernel
theorem dX10_readWord_11 : decode cX10_readWord 11 = .ok (.getfield 56, 3) := by decide +kernel
theorem dX10_readWord_14 : decode cX10_readWord 14 = .ok (.ifCond .ne 106, 3) := by decide +kernel
theorem dX10_readWord_17 : decode cX10_readWord 17 = .ok (.aload_n 0, 1) := by decide +kernel
theorem dX10_readWord_18 : decode cX10_readWord 18 = .ok (.bipush 45, 2) := by decide +kernel
theorem dX10_readWord_20 : decode cX10_readWord 20 = .ok (.invokevirtual 60, 3) := by decide +kernel
theorem dX10_readWord_23 : decode cX10_readWord 23 = .ok (.ifCond .eq 97, 3) := by decide +kernel
theorem dX10_readWord_26 : decode cX10_readWord 26 = .ok (.aload_n 0, 1) := by decide +kernel
theorem dX10_readWord_27 : decode cX10_readWord 27 = .ok (.dup, 1) := by decide +kernel
theorem dX10_readWord_28 : decode cX10_readWord 28 = .ok (.getfield 49, 3) := by decide +kernel
theorem dX10_readWord_31 : decode cX10_readWord 31 = .ok (.iconst 1, 1) := by decide +kernel
theorem dX10_readWord_32 : decode cX10_readWord 32 = .ok (.iadd, 1) := by decide +kernel
theorem dX10_readWord_33 : decode cX10_readWord 33 = .ok (.putfield 49, 3) := by decide +kernel
theorem dX10_readWord_36 : decode cX10_readWord 36 = .ok (.aload_n 0, 1) := by decide +kernel
theorem dX10_readWord_37 : decode cX10_readWord 37 = .ok (.aload_n 0, 1) := by decide +kernel
theorem dX10_readWord_38 : decode cX10_readWord 38 = .ok (.getfield 49, 3) := by decide +kernel
theorem dX10_readWord_41 : decode cX10_readWord 41 = .ok (.aload_n 0, 1) := by decide +kernel
theorem dX10_readWord_42 : decode cX10_readWord 42 = .ok (.getfield 45, 3) := by decide +kernel
theorem dX10_readWord_45 : decode cX10_readWord 45 = .ok (.if_icmp .eq 22, 3) := by decide +kernel
theorem dX10_readWord_48 : decode cX10_readWord 48 = .ok (.aload_n 0, 1) := by decide +kernel
theorem dX10_readWord_49 : decode cX10_readWord 49 = .ok (.getfield 20, 3) := by decide +kernel
theorem dX10_readWord_52 : decode cX10_readWord 52 = .ok (.aload_n 0, 1) := by decide +kernel
theorem dX10_readWord_53 : decode cX10_readWord 53 = .ok (.getfield 49, 3) := by decide +kernel
theorem dX10_readWord_56 : decode cX10_readWord 56 = .ok (.iaload, 1) := by decide +kernel
theorem dX10_readWord_57 : decode cX10_readWord 57 = .ok (.bipush 49, 2) := by decide +kernel
theorem dX10_readWord_59 : decode cX10_readWord 59 = .ok (.bipush 55, 2) := by decide +kernel
theorem dX10_readWord_61 : decode cX10_readWord 61 = .ok (.invokestatic 41, 3) := by decide +kernel
theorem dX10_readWord_64 : decode cX10_readWord 64 = .ok (.ifCond .ne 7, 3) := by decide +kernel
theorem dX10_readWord_67 : decode cX10_readWord 67 = .ok (.iconst 1, 1) := by decide +kernel
theorem dX10_readWord_68 : decode cX10_readWord 68 = .ok (.goto 4, 3) := by decide +kernel
theorem dX10_readWord_71 : decode cX10_readWord 71 = .ok (.iconst 0, 1) := by decide +kernel
theorem dX10_readWord_72 : decode cX10_readWord 72 = .ok (.putfield 56, 3) := by decide +kernel
theorem dX10_readWord_75 : decode cX10_readWord 75 = .ok (.aload_n 0, 1) := by decide +kernel
theorem dX10_readWord_76 : decode cX10_readWord 76 = .ok (.getfield 56, 3) := by decide +kernel
theorem dX10_readWord_79 : decode cX10_readWord 79 = .ok (.ifCond .eq 7, 3) := by decide +kernel
theorem dX10_readWord_82 : decode cX10_readWord 82 = .ok (.iconst 0, 1) := by decide +kernel
theorem dX10_readWord_83 : decode cX10_readWord 83 = .ok (.goto 15, 3) := by decide +kernel
theorem dX10_readWord_86 : decode cX10_readWord 86 = .ok (.aload_n 0, 1) := by decide +kernel
theorem dX10_readWord_87 : decode cX10_readWord 87 = .ok (.getfield 20, 3) := by decide +kernel
theorem dX10_readWord_90 : decode cX10_readWord 90 = .ok (.aload_n 0, 1) := by decide +kernel
theorem dX10_readWord_91 : decode cX10_readWord 91 = .ok (.getfield 49, 3) := by decide +kernel
theorem dX10_readWord_94 : decode cX10_readWord 94 = .ok (.iaload, 1) := by decide +kernel
theorem dX10_readWord_95 : decode cX10_readWord 95 = .ok (.bipush 48, 2) := by decide +kernel
theorem dX10_readWord_97 : decode cX10_readWord 97 = .ok (.isub, 1) := by decide +kernel
theorem dX10_readWord_98 : decode cX10_readWord 98 = .ok (.istore_n 2, 1) := by decide +kernel
theorem dX10_readWord_99 : decode cX10_readWord 99 = .ok (.aload_n 0, 1) := by decide +kernel
theorem dX10_readWord_100 : decode cX10_readWord 100 = .ok (.dup, 1) := by decide +kernel
theorem dX10_readWord_101 : decode cX10_readWord 101 = .ok (.getfield 49, 3) := by decide +kernel
theorem dX10_readWord_104 : decode cX10_readWord 104 = .ok (.aload_n 0, 1) := by decide +kernel
theorem dX10_readWord_105 : decode cX10_readWord 105 = .ok (.getfield 56, 3) := by decide +kernel
theorem dX10_readWord_108 : decode cX10_readWord 108 = .ok (.ifCond .eq 7, 3) := by decide +kernel
theorem dX10_readWord_111 : decode cX10_readWord 111 = .ok (.iconst 0, 1) := by decide +kernel
theorem dX10_readWord_112 : decode cX10_readWord 112 = .ok (.goto 4, 3) := by decide +kernel
theorem dX10_readWord_115 : decode cX10_readWord 115 = .ok (.iconst 1, 1) := by decide +kernel
theorem dX10_readWord_116 : decode cX10_readWord 116 = .ok (.iadd, 1) := by decide +kernel
theorem dX10_readWord_117 : decode cX10_readWord 117 = .ok (.putfield 49, 3) := by decide +kernel
theorem dX10_readWord_120 : decode cX10_readWord 120 = .ok (.aload_n 0, 1) := by decide +kernel
theorem dX10_readWord_121 : decode cX10_readWord 121 = .ok (.getfield 56, 3) := by decide +kernel
theorem dX10_readWord_124 : decode cX10_readWord 124 = .ok (.ifCond .ne 16, 3) := by decide +kernel
theorem dX10_readWord_127 : decode cX10_readWord 127 = .ok (.aload_n 0, 1) := by decide +kernel
theorem dX10_readWord_128 : decode cX10_readWord 128 = .ok (.bipush 42, 2) := by decide +kernel
theorem dX10_readWord_130 : decode cX10_readWord 130 = .ok (.invokevirtual 60, 3) := by decide +kernel
theorem dX10_readWord_133 : decode cX10_readWord 133 = .ok (.ifCond .eq 7, 3) := by decide +kernel
theorem dX10_readWord_136 : decode cX10_readWord 136 = .ok (.iconst 1, 1) := by decide +kernel
theorem dX10_readWord_137 : decode cX10_readWord 137 = .ok (.goto 4, 3) := by decide +kernel
theorem dX10_readWord_140 : decode cX10_readWord 140 = .ok (.iconst 0, 1) := by decide +kernel
theorem dX10_readWord_141 : decode cX10_readWord 141 = .ok (.istore_n 3, 1) := by decide +kernel
theorem dX10_readWord_142 : decode cX10_readWord 142 = .ok (.aload_n 0, 1) := by decide +kernel
theorem dX10_readWord_143 : decode cX10_readWord 143 = .ok (.dup, 1) := by decide +kernel
theorem dX10_readWord_144 : decode cX10_readWord 144 = .ok (.getfield 49, 3) := by decide +kernel
theorem dX10_readWord_147 : decode cX10_readWord 147 = .ok (.iload_n 3, 1) := by decide +kernel
theorem dX10_readWord_148 : decode cX10_readWord 148 = .ok (.ifCond .eq 7, 3) := by decide +kernel
theorem dX10_readWord_151 : decode cX10_readWord 151 = .ok (.iconst 1, 1) := by decide +kernel
theorem dX10_readWord_152 : decode cX10_readWord 152 = .ok (.goto 4, 3) := by decide +kernel
theorem dX10_readWord_155 : decode cX10_readWord 155 = .ok (.iconst 0, 1) := by decide +kernel
theorem dX10_readWord_156 : decode cX10_readWord 156 = .ok (.iadd, 1) := by decide +kernel
theorem dX10_readWord_157 : decode cX10_readWord 157 = .ok (.putfield 49, 3) := by decide +kernel
theorem dX10_readWord_160 : decode cX10_readWord 160 = .ok (.aload_n 0, 1) := by decide +kernel
theorem dX10_readWord_161 : decode cX10_readWord 161 = .ok (.getfield 23, 3) := by decide +kernel
theorem dX10_readWord_164 : decode cX10_readWord 164 = .ok (.iconst 3, 1) := by decide +kernel
theorem dX10_readWord_165 : decode cX10_readWord 165 = .ok (.aload_n 0, 1) := by decide +kernel
theorem dX10_readWord_166 : decode cX10_readWord 166 = .ok (.getfield 23, 3) := by decide +kernel
theorem dX10_readWord_169 : decode cX10_readWord 169 = .ok (.iconst 2, 1) := by decide +kernel
theorem dX10_readWord_170 : decode cX10_readWord 170 = .ok (.iaload, 1) := by decide +kernel
theorem dX10_readWord_171 : decode cX10_readWord 171 = .ok (.iadd, 1) := by decide +kernel
theorem dX10_readWord_172 : decode cX10_readWord 172 = .ok (.bipush 16, 2) := by decide +kernel
theorem dX10_readWord_174 : decode cX10_readWord 174 = .ok (.iload_n 1, 1) := by decide +kernel
theorem dX10_readWord_175 : decode cX10_readWord 175 = .ok (.imul, 1) := by decide +kernel
theorem dX10_readWord_176 : decode cX10_readWord 176 = .ok (.iconst 2, 1) := by decide +kernel
theorem dX10_readWord_177 : decode cX10_readWord 177 = .ok (.iload_n 2, 1) := by decide +kernel
theorem dX10_readWord_178 : decode cX10_readWord 178 = .ok (.imul, 1) := by decide +kernel
theorem dX10_readWord_179 : decode cX10_readWord 179 = .ok (.iadd, 1) := by decide +kernel
theorem dX10_readWord_180 : decode cX10_readWord 180 = .ok (.iload_n 3, 1) := by decide +kernel
theorem dX10_readWord_181 : decode cX10_readWord 181 = .ok (.ifCond .eq 7, 3) := by decide +kernel
theorem dX10_readWord_184 : decode cX10_readWord 184 = .ok (.iconst 1, 1) := by decide +kernel
theorem dX10_readWord_185 : decode cX10_readWord 185 = .ok (.goto 4, 3) := by decide +kernel
theorem dX10_readWord_188 : decode cX10_readWord 188 = .ok (.iconst 0, 1) := by decide +kernel
theorem dX10_readWord_189 : decode cX10_readWord 189 = .ok (.iadd, 1) := by decide +kernel
theorem dX10_readWord_190 : decode cX10_readWord 190 = .ok (.iastore, 1) := by decide +kernel
theorem dX10_readWord_191 : decode cX10_readWord 191 = .ok (.aload_n 0, 1) := by decide +kernel
theorem dX10_readWord_192 : decode cX10_readWord 192 = .ok (.getfield 23, 3) := by decide +kernel
theorem dX10_readWord_195 : decode cX10_readWord 195 = .ok (.iconst 2, 1) := by decide +kernel
theorem dX10_readWord_196 : decode cX10_readWord 196 = .ok (.dup2, 1) := by decide +kernel
theorem dX10_readWord_197 : decode cX10_readWord 197 = .ok (.iaload, 1) := by decide +kernel
theorem dX10_readWord_198 : decode cX10_readWord 198 = .ok (.iconst 1, 1) := by decide +kernel
theorem dX10_readWord_199 : decode cX10_readWord 199 = .ok (.iadd, 1) := by decide +kernel
theorem dX10_readWord_200 : decode cX10_readWord 200 = .ok (.iastore, 1) := by decide +kernel
theorem dX10_readWord_201 : decode cX10_readWord 201 = .ok (.return_, 1) := by decide +kernel
theorem dX10_readPacket_0 : decode cX10_readPacket 0 = .ok (.aload_n 0, 1) := by decide +kernel
theorem dX10_readPacket_1 : decode cX10_readPacket 1 = .ok (.iconst 0, 1) := by decide +kernel
theorem dX10_readPacket_2 : decode cX10_readPacket 2 = .ok (.putfield 49, 3) := by decide +kernel
theorem dX10_readPacket_5 : decode cX10_readPacket 5 = .ok (.aload_n 0, 1) := by decide +kernel
theorem dX10_readPacket_6 : decode cX10_readPacket 6 = .ok (.iconst 0, 1) := by decide +kernel
theorem dX10_readPacket_7 : decode cX10_readPacket 7 = .ok (.putfield 56, 3) := by decide +kernel
theorem dX10_readPacket_10 : decode cX10_readPacket 10 = .ok (.aload_n 0, 1) := by decide +kernel
theorem dX10_readPacket_11 : decode cX10_readPacket 11 = .ok (.getfield 23, 3) := by decide +kernel
theorem dX10_readPacket_14 : decode cX10_readPacket 14 = .ok (.iconst 2, 1) := by decide +kernel
theorem dX10_readPacket_15 : decode cX10_readPacket 15 = .ok (.iconst 0, 1) := by decide +kernel
theorem dX10_readPacket_16 : decode cX10_readPacket 16 = .ok (.iastore, 1) := by decide +kernel
theorem dX10_readPacket_17 : decode cX10_readPacket 17 = .ok (.aload_n 0, 1) := by decide +kernel
theorem dX10_readPacket_18 : decode cX10_readPacket 18 = .ok (.getfield 23, 3) := by decide +kernel
theorem dX10_readPacket_21 : decode cX10_readPacket 21 = .ok (.iconst 0, 1) := by decide +kernel
theorem dX10_readPacket_22 : decode cX10_readPacket 22 = .ok (.aload_n 0, 1) := by decide +kernel
theorem dX10_readPacket_23 : decode cX10_readPacket 23 = .ok (.bipush 65, 2) := by decide +kernel
theorem dX10_readPacket_25 : decode cX10_readPacket 25 = .ok (.iconst 3, 1) := by decide +kernel
theorem dX10_readPacket_26 : decode cX10_readPacket 26 = .ok (.invokevirtual 63, 3) := by decide +kernel
theorem dX10_readPacket_29 : decode cX10_readPacket 29 = .ok (.iastore, 1) := by decide +kernel
theorem dX10_readPacket_30 : decode cX10_readPacket 30 = .ok (.aload_n 0, 1) := by decide +kernel
theorem dX10_readPacket_31 : decode cX10_readPacket 31 = .ok (.bipush 62, 2) := by decide +kernel
theorem dX10_readPacket_33 : decode cX10_readPacket 33 = .ok (.invokevirtual 67, 3) := by decide +kernel
theorem dX10_readPacket_36 : decode cX10_readPacket 36 = .ok (.aload_n 0, 1) := by decide +kernel
theorem dX10_readPacket_37 : decode cX10_readPacket 37 = .ok (.getfield 56, 3) := by decide +kernel
theorem dX10_readPacket_40 : decode cX10_readPacket 40 = .ok (.ifCond .ne 16, 3) := by decide +kernel
theorem dX10_readPacket_43 : decode cX10_readPacket 43 = .ok (.aload_n 0, 1) := by decide +kernel
theorem dX10_readPacket_44 : decode cX10_readPacket 44 = .ok (.bipush 65, 2) := by decide +kernel
theorem dX10_readPacket_46 : decode cX10_readPacket 46 = .ok (.invokevirtual 52, 3) := by decide +kernel
theorem dX10_readPacket_49 : decode cX10_readPacket 49 = .ok (.ifCond .eq 7, 3) := by decide +kernel
theorem dX10_readPacket_52 : decode cX10_readPacket 52 = .ok (.iconst 1, 1) := by decide +kernel
theorem dX10_readPacket_53 : decode cX10_readPacket 53 = .ok (.goto 4, 3) := by decide +kernel
theorem dX10_readPacket_56 : decode cX10_readPacket 56 = .ok (.iconst 0, 1) := by decide +kernel
theorem dX10_readPacket_57 : decode cX10_readPacket 57 = .ok (.istore_n 1, 1) := by decide +kernel
theorem dX10_readPacket_58 : decode cX10_readPacket 58 = .ok (.iload_n 1, 1) := by decide +kernel
theorem dX10_readPacket_59 : decode cX10_readPacket 59 = .ok (.ifCond .eq 60, 3) := by decide +kernel
theorem dX10_readPacket_62 : decode cX10_readPacket 62 = .ok (.aload_n 0, 1) := by decide +kernel
theorem dX10_readPacket_63 : decode cX10_readPacket 63 = .ok (.invokevirtual 71, 3) := by decide +kernel
theorem dX10_readPacket_66 : decode cX10_readPacket 66 = .ok (.aload_n 0, 1) := by decide +kernel
theorem dX10_readPacket_67 : decode cX10_readPacket 67 = .ok (.getfield 56, 3) := by decide +kernel
theorem dX10_readPacket_70 : decode cX10_readPacket 70 = .ok (.ifCond .ne 26, 3) := by decide +kernel
theorem dX10_readPacket_73 : decode cX10_readPacket 73 = .ok (.aload_n 0, 1) := by decide +kernel
theorem dX10_readPacket_74 : decode cX10_readPacket 74 = .ok (.getfield 23, 3) := by decide +kernel
theorem dX10_readPacket_77 : decode cX10_readPacket 77 = .ok (.iconst 2, 1) := by decide +kernel
theorem dX10_readPacket_78 : decode cX10_readPacket 78 = .ok (.iaload, 1) := by decide +kernel
theorem dX10_readPacket_79 : decode cX10_readPacket 79 = .ok (.iconst 5, 1) := by decide +kernel
theorem dX10_readPacket_80 : decode cX10_readPacket 80 = .ok (.if_icmp .ge 16, 3) := by decide +kernel
theorem dX10_readPacket_83 : decode cX10_readPacket 83 = .ok (.aload_n 0, 1) := by decide +kernel
theorem dX10_readPacket_84 : decode cX10_readPacket 84 = .ok (.bipush 44, 2) := by decide +kernel
theorem dX10_readPacket_86 : decode cX10_readPacket 86 = .ok (.invokevirtual 60, 3) := by decide +kernel
theorem dX10_readPacket_89 : decode cX10_readPacket 89 = .ok (.ifCond .eq 7, 3) := by decide +kernel
theorem dX10_readPacket_92 : decode cX10_readPacket 92 = .ok (.iconst 1, 1) := by decide +kernel
theorem dX10_readPacket_93 : decode cX10_readPacket 93 = .ok (.goto 4, 3) := by decide +kernel
theorem dX10_readPacket_96 : decode cX10_readPacket 96 = .ok (.iconst 0, 1) := by decide +kernel
theorem dX10_readPacket_97 : decode cX10_readPacket 97 = .ok (.istore_n 1, 1) := by decide +kernel
theorem dX10_readPacket_98 : decode cX10_readPacket 98 = .ok (.aload_n 0, 1) := by decide +kernel
theorem dX10_readPacket_99 : decode cX10_readPacket 99 = .ok (.dup, 1) := by decide +kernel
theorem dX10_readPacket_100 : decode cX10_readPacket 100 = .ok (.getfield 49, 3) := by decide +kernel
theorem dX10_readPacket_103 : decode cX10_readPacket 103 = .ok (.iload_n 1, 1) := by decide +kernel
theorem dX10_readPacket_104 : decode cX10_readPacket 104 = .ok (.ifCond .eq 7, 3) := by decide +kernel
theorem dX10_readPacket_107 : decode cX10_readPacket 107 = .ok (.iconst 1, 1) := by decide +kernel
theorem dX10_readPacket_108 : decode cX10_readPacket 108 = .ok (.goto 4, 3) := by decide +kernel
theorem dX10_readPacket_111 : decode cX10_readPacket 111 = .ok (.iconst 0, 1) := by decide +kernel
theorem dX10_readPacket_112 : decode cX10_readPacket 112 = .ok (.iadd, 1) := by decide +kernel
theorem dX10_readPacket_113 : decode cX10_readPacket 113 = .ok (.putfield 49, 3) := by decide +kernel
theorem dX10_readPacket_116 : decode cX10_readPacket 116 = .ok (.goto (-58), 3) := by decide +kernel
theorem dX10_readPacket_119 : decode cX10_readPacket 119 = .ok (.aload_n 0, 1) := by decide +kernel
theorem dX10_readPacket_120 : decode cX10_readPacket 120 = .ok (.bipush 58, 2) := by decide +kernel
theorem dX10_readPacket_122 : decode cX10_readPacket 122 = .ok (.invokevirtual 67, 3) := by decide +kernel
theorem dX10_readPacket_125 : decode cX10_readPacket 125 = .ok (.aload_n 0, 1) := by decide +kernel
theorem dX10_readPacket_126 : decode cX10_readPacket 126 = .ok (.getfield 56, 3) := by decide +kernel
theorem dX10_readPacket_129 : decode cX10_readPacket 129 = .ok (.ifCond .ne 16, 3) := by decide +kernel
theorem dX10_readPacket_132 : decode cX10_readPacket 132 = .ok (.aload_n 0, 1) := by decide +kernel
theorem dX10_readPacket_133 : decode cX10_readPacket 133 = .ok (.getfield 23, 3) := by decide +kernel
theorem dX10_readPacket_136 : decode cX10_readPacket 136 = .ok (.iconst 1, 1) := by decide +kernel
theorem dX10_readPacket_137 : decode cX10_readPacket 137 = .ok (.aload_n 0, 1) := by decide +kernel
theorem dX10_readPacket_138 : decode cX10_readPacket 138 = .ok (.bipush 97, 2) := by decide +kernel
theorem dX10_readPacket_140 : decode cX10_readPacket 140 = .ok (.iconst 4, 1) := by decide +kernel
theorem dX10_readPacket_141 : decode cX10_readPacket 141 = .ok (.invokevirtual 63, 3) := by decide +kernel
theorem dX10_readPacket_144 : decode cX10_readPacket 144 = .ok (.iastore, 1) := by decide +kernel
theorem dX10_readPacket_145 : decode cX10_readPacket 145 = .ok (.aload_n 0, 1) := by decide +kernel
theorem dX10_readPacket_146 : decode cX10_readPacket 146 = .ok (.getfield 56, 3) := by decide +kernel
theorem dX10_readPacket_149 : decode cX10_readPacket 149 = .ok (.ifCond .ne 14, 3) := by decide +kernel
theorem dX10_readPacket_152 : decode cX10_readPacket 152 = .ok (.aload_n 0, 1) := by decide +kernel
theorem dX10_readPacket_153 : decode cX10_readPacket 153 = .ok (.getfield 49, 3) := by decide +kernel
theorem dX10_readPacket_156 : decode cX10_readPacket 156 = .ok (.aload_n 0, 1) := by decide +kernel
theorem dX10_readPacket_157 : decode cX10_readPacket 157 = .ok (.getfield 45, 3) := by decide +kernel
theorem dX10_readPacket_160 : decode cX10_readPacket 160 = .ok (.if_icmp .ge 10, 3) := by decide +kernel
theorem dX10_readPacket_163 : decode cX10_readPacket 163 = .ok (.aload_n 0, 1) := by decide +kernel
theorem dX10_readPacket_164 : decode cX10_readPacket 164 = .ok (.getfield 49, 3) := by decide +kernel
theorem dX10_readPacket_167 : decode cX10_readPacket 167 = .ok (.goto 5, 3) := by decide +kernel
theorem dX10_readPacket_170 : decode cX10_readPacket 170 = .ok (.bipush (-6), 2) := by decide +kernel
theorem dX10_readPacket_172 : decode cX10_readPacket 172 = .ok (.ireturn, 1) := by decide +kernel
theorem dX10_fault_0 : decode cX10_fault 0 = .ok (.aload_n 0, 1) := by decide +kernel
theorem dX10_fault_1 : decode cX10_fault 1 = .ok (.invokevirtual 74, 3) := by decide +kernel
theorem dX10_fault_4 : decode cX10_fault 4 = .ok (.ireturn, 1) := by decide +kernel
theorem dX10_readName_0 : decode cX10_readName 0 = .ok (.aload_n 0, 1) := by decide +kernel
theorem dX10_readName_1 : decode cX10_readName 1 = .ok (.iconst 0, 1) := by decide +kernel
theorem dX10_readName_2 : decode cX10_readName 2 = .ok (.putfield 49, 3) := by decide +kernel
theorem dX10_readName_5 : decode cX10_readName 5 = .ok (.aload_n 0, 1) := by decide +kernel
theorem dX10_readName_6 : decode cX10_readName 6 = .ok (.iconst 0, 1) := by decide +kernel
theorem dX10_readName_7 : decode cX10_readName 7 = .ok (.putfield 56, 3) := by decide +kernel
theorem dX10_readName_10 : decode cX10_readName 10 = .ok (.aload_n 0, 1) := by decide +kernel
theorem dX10_readName_11 : decode cX10_readName 11 = .ok (.bipush 65, 2) := by decide +kernel
theorem dX10_readName_13 : decode cX10_readName 13 = .ok (.iconst 3, 1) := by decide +kernel
theorem dX10_readName_14 : decode cX10_readName 14 = .ok (.invokevirtual 63, 3) := by decide +kernel
theorem dX10_readName_17 : decode cX10_readName 17 = .ok (.istore_n 1, 1) := by decide +kernel
theorem dX10_readName_18 : decode cX10_readName 18 = .ok (.aload_n 0, 1) := by decide +kernel
theorem dX10_readName_19 : decode cX10_readName 19 = .ok (.getfield 56, 3) := by decide +kernel
theorem dX10_readName_22 : decode cX10_readName 22 = .ok (.ifCond .ne 14, 3) := by decide +kernel
theorem dX10_readName_25 : decode cX10_readName 25 = .ok (.aload_n 0, 1) := by decide +kernel
theorem dX10_readName_26 : decode cX10_readName 26 = .ok (.getfield 49, 3) := by decide +kernel
theorem dX10_readName_29 : decode cX10_readName 29 = .ok (.aload_n 0, 1) := by decide +kernel
theorem dX10_readName_30 : decode cX10_readName 30 = .ok (.getfield 45, 3) := by decide +kernel
theorem dX10_readName_33 : decode cX10_readName 33 = .ok (.if_icmp .ge 8, 3) := by decide +kernel
theorem dX10_readName_36 : decode cX10_readName 36 = .ok (.bipush (-6), 2) := by decide +kernel
theorem dX10_readName_38 : decode cX10_readName 38 = .ok (.goto 4, 3) := by decide +kernel
theorem dX10_readName_41 : decode cX10_readName 41 = .ok (.iload_n 1, 1) := by decide +kernel
theorem dX10_readName_42 : decode cX10_readName 42 = .ok (.ireturn, 1) := by decide +kernel
theorem dX10_name_0 : decode cX10_name 0 = .ok (.iload_n 1, 1) := by decide +kernel
theorem dX10_name_1 : decode cX10_name 1 = .ok (.invokestatic 78, 3) := by decide +kernel
theorem dX10_name_4 : decode cX10_name 4 = .ok (.ifCond .ne 5, 3) := by decide +kernel
theorem dX10_name_7 : decode cX10_name 7 = .ok (.iconst (-1), 1) := by decide +kernel
theorem dX10_name_8 : decode cX10_name 8 = .ok (.ireturn, 1) := by decide +kernel
theorem dX10_name_9 : decode cX10_name 9 = .ok (.iload_n 2, 1) := by decide +kernel
theorem dX10_name_10 : decode cX10_name 10 = .ok (.iconst 0, 1) := by decide +kernel
theorem dX10_name_11 : decode cX10_name 11 = .ok (.iconst 2, 1) := by decide +kernel
theorem dX10_name_12 : decode cX10_name 12 = .ok (.invokestatic 41, 3) := by decide +kernel
theorem dX10_name_15 : decode cX10_name 15 = .ok (.ifCond .ne 6, 3) := by decide +kernel
theorem dX10_name_18 : decode cX10_name 18 = .ok (.bipush (-2), 2) := by decide +kernel
theorem dX10_name_20 : decode cX10_name 20 = .ok (.ireturn, 1) := by decide +kernel
theorem dX10_name_21 : decode cX10_name 21 = .ok (.aload_n 0, 1) := by decide +kernel
theorem dX10_name_22 : decode cX10_name 22 = .ok (.invokevirtual 81, 3) := by decide +kernel
theorem dX10_name_25 : decode cX10_name 25 = .ok (.istore_n 3, 1) := by decide +kernel
theorem dX10_name_26 : decode cX10_name 26 = .ok (.iload_n 3, 1) := by decide +kernel
theorem dX10_name_27 : decode cX10_name 27 = .ok (.ifCond .ge 6, 3) := by decide +kernel
theorem dX10_name_30 : decode cX10_name 30 = .ok (.bipush (-7), 2) := by decide +kernel
theorem dX10_name_32 : decode cX10_name 32 = .ok (.ireturn, 1) := by decide +kernel
theorem dX10_name_33 : decode cX10_name 33 = .ok (.iload_n 2, 1) := by decide +kernel
theorem dX10_name_34 : decode cX10_name 34 = .ok (.ifCond .ne 12, 3) := by decide +kernel
theorem dX10_name_37 : decode cX10_name 37 = .ok (.aload_n 0, 1) := by decide +kernel
theorem dX10_name_38 : decode cX10_name 38 = .ok (.iload_n 1, 1) := by decide +kernel
theorem dX10_name_39 : decode cX10_name 39 = .ok (.iload_n 3, 1) := by decide +kernel
theorem dX10_name_40 : decode cX10_name 40 = .ok (.invokevirtual 84, 3) := by decide +kernel
theorem dX10_name_43 : decode cX10_name 43 = .ok (.goto 33, 3) := by decide +kernel
theorem dX10_name_46 : decode cX10_name 46 = .ok (.aload_n 0, 1) := by decide +kernel
theorem dX10_name_47 : decode cX10_name 47 = .ok (.iload_n 1, 1) := by decide +kernel
theorem dX10_name_48 : decode cX10_name 48 = .ok (.iload_n 3, 1) := by decide +kernel
theorem dX10_name_49 : decode cX10_name 49 = .ok (.iload_n 2, 1) := by decide +kernel
theorem dX10_name_50 : decode cX10_name 50 = .ok (.iconst 1, 1) := by decide +kernel
theorem dX10_name_51 : decode cX10_name 51 = .ok (.if_icmp .ne 8, 3) := by decide +kernel
theorem dX10_name_54 : decode cX10_name 54 = .ok (.bipush 6, 2) := by decide +kernel
theorem dX10_name_56 : decode cX10_name 56 = .ok (.goto 5, 3) := by decide +kernel
theorem dX10_name_59 : decode cX10_name 59 = .ok (.bipush 24, 2) := by decide +kernel
theorem dX10_name_61 : decode cX10_name 61 = .ok (.iload_n 2, 1) := by decide +kernel
theorem dX10_name_62 : decode cX10_name 62 = .ok (.iconst 1, 1) := by decide +kernel
theorem dX10_name_63 : decode cX10_name 63 = .ok (.if_icmp .ne 8, 3) := by decide +kernel
theorem dX10_name_66 : decode cX10_name 66 = .ok (.bipush 18, 2) := by decide +kernel
theorem dX10_name_68 : decode cX10_name 68 = .ok (.goto 5, 3) := by decide +kernel
theorem dX10_name_71 : decode cX10_name 71 = .ok (.bipush 36, 2) := by decide +kernel
theorem dX10_name_73 : decode cX10_name 73 = .ok (.invokevirtual 87, 3) := by decide +kernel
theorem dX10_name_76 : decode cX10_name 76 = .ok (.ireturn, 1) := by decide +kernel
theorem dX10_call_0 : decode cX10_call 0 = .ok (.iconst 0, 1) := by decide +kernel
theorem dX10_call_1 : decode cX10_call 1 = .ok (.istore_n 3, 1) := by decide +kernel
theorem dX10_call_2 : decode cX10_call 2 = .ok (.iload_n 3, 1) := by decide +kernel
theorem dX10_call_3 : decode cX10_call 3 = .ok (.bipush 6, 2) := by decide +kernel
theorem dX10_call_5 : decode cX10_call 5 = .ok (.if_icmp .ge 29, 3) := by decide +kernel
theorem dX10_call_8 : decode cX10_call 8 = .ok (.iload_n 3, 1) := by decide +kernel
theorem dX10_call_9 : decode cX10_call 9 = .ok (.iload_n 1, 1) := by decide +kernel
theorem dX10_call_10 : decode cX10_call 10 = .ok (.if_icmp .eq 18, 3) := by decide +kernel
theorem dX10_call_13 : decode cX10_call 13 = .ok (.aload_n 0, 1) := by decide +kernel
theorem dX10_call_14 : decode cX10_call 14 = .ok (.getfield 7, 3) := by decide +kernel
theorem dX10_call_17 : decode cX10_call 17 = .ok (.iconst 0, 1) := by decide +kernel
theorem dX10_call_18 : decode cX10_call 18 = .ok (.iload_n 3, 1) := by decide +kernel
theorem dX10_call_19 : decode cX10_call 19 = .ok (.iadd, 1) := by decide +kernel
theorem dX10_call_20 : decode cX10_call 20 = .ok (.iaload, 1) := by decide +kernel
theorem dX10_call_21 : decode cX10_call 21 = .ok (.iload_n 2, 1) := by decide +kernel
theorem dX10_call_22 : decode cX10_call 22 = .ok (.if_icmp .ne 6, 3) := by decide +kernel
theorem dX10_call_25 : decode cX10_call 25 = .ok (.bipush (-3), 2) := by decide +kernel
theorem dX10_call_27 : decode cX10_call 27 = .ok (.ireturn, 1) := by decide +kernel
theorem dX10_call_28 : decode cX10_call 28 = .ok (.iinc 3 1, 3) := by decide +kernel
theorem dX10_call_31 : decode cX10_call 31 = .ok (.goto (-29), 3) := by decide +kernel
theorem dX10_call_34 : decode cX10_call 34 = .ok (.aload_n 0, 1) := by decide +kernel
theorem dX10_call_35 : decode cX10_call 35 = .ok (.getfield 7, 3) := by decide +kernel
theorem dX10_call_38 : decode cX10_call 38 = .ok (.iconst 0, 1) := by decide +kernel
theorem dX10_call_39 : decode cX10_call 39 = .ok (.iload_n 1, 1) := by decide +kernel
theorem dX10_call_40 : decode cX10_call 40 = .ok (.iadd, 1) := by decide +kernel
theorem dX10_call_41 : decode cX10_call 41 = .ok (.iload_n 2, 1) := by decide +kernel
theorem dX10_call_42 : decode cX10_call 42 = .ok (.iastore, 1) := by decide +kernel
theorem dX10_call_43 : decode cX10_call 43 = .ok (.aload_n 0, 1) := by decide +kernel
theorem dX10_call_44 : decode cX10_call 44 = .ok (.iconst 0, 1) := by decide +kernel
theorem dX10_call_45 : decode cX10_call 45 = .ok (.putfield 45, 3) := by decide +kernel
theorem dX10_call_48 : decode cX10_call 48 = .ok (.iconst 1, 1) := by decide +kernel
theorem dX10_call_49 : decode cX10_call 49 = .ok (.ireturn, 1) := by decide +kernel
theorem dX10_more_0 : decode cX10_more 0 = .ok (.aload_n 0, 1) := by decide +kernel
theorem dX10_more_1 : decode cX10_more 1 = .ok (.getfield 7, 3) := by decide +kernel
theorem dX10_more_4 : decode cX10_more 4 = .ok (.iload 4, 2) := by decide +kernel
theorem dX10_more_6 : decode cX10_more 6 = .ok (.iload_n 1, 1) := by decide +kernel
theorem dX10_more_7 : decode cX10_more 7 = .ok (.iadd, 1) := by decide +kernel
theorem dX10_more_8 : decode cX10_more 8 = .ok (.iaload, 1) := by decide +kernel
theorem dX10_more_9 : decode cX10_more 9 = .ok (.istore 5, 2) := by decide +kernel
theorem dX10_more_11 : decode cX10_more 11 = .ok (.iload 5, 2) := by decide +kernel
theorem dX10_more_13 : decode cX10_more 13 = .ok (.iconst 2, 1) := by decide +kernel
theorem dX10_more_14 : decode cX10_more 14 = .ok (.if_icmp .ne 6, 3) := by decide +kernel
theorem dX10_more_17 : decode cX10_more 17 = .ok (.bipush (-4), 2) := by decide +kernel
theorem dX10_more_19 : decode cX10_more 19 = .ok (.ireturn, 1) := by decide +kernel
theorem dX10_more_20 : decode cX10_more 20 = .ok (.aload_n 0, 1) := by decide +kernel
theorem dX10_more_21 : decode cX10_more 21 = .ok (.getfield 7, 3) := by decide +kernel
theorem dX10_more_24 : decode cX10_more 24 = .ok (.iload_n 3, 1) := by decide +kernel
theorem dX10_more_25 : decode cX10_more 25 = .ok (.iconst 2, 1) := by decide +kernel
theorem dX10_more_26 : decode cX10_more 26 = .ok (.iload_n 1, 1) := by decide +kernel
theorem dX10_more_27 : decode cX10_more 27 = .ok (.imul, 1) := by decide +kernel
theorem dX10_more_28 : decode cX10_more 28 = .ok (.iadd, 1) := by decide +kernel
theorem dX10_more_29 : decode cX10_more 29 = .ok (.iload 5, 2) := by decide +kernel
theorem dX10_more_31 : decode cX10_more 31 = .ok (.iadd, 1) := by decide +kernel
theorem dX10_more_32 : decode cX10_more 32 = .ok (.iload_n 2, 1) := by decide +kernel
theorem dX10_more_33 : decode cX10_more 33 = .ok (.iastore, 1) := by decide +kernel
theorem dX10_more_34 : decode cX10_more 34 = .ok (.aload_n 0, 1) := by decide +kernel
theorem dX10_more_35 : decode cX10_more 35 = .ok (.getfield 7, 3) := by decide +kernel
theorem dX10_more_38 : decode cX10_more 38 = .ok (.iload 4, 2) := by decide +kernel
theorem dX10_more_40 : decode cX10_more 40 = .ok (.iload_n 1, 1) := by decide +kernel
theorem dX10_more_41 : decode cX10_more 41 = .ok (.iadd, 1) := by decide +kernel
theorem dX10_more_42 : decode cX10_more 42 = .ok (.dup2, 1) := by decide +kernel
theorem dX10_more_43 : decode cX10_more 43 = .ok (.iaload, 1) := by decide +kernel
theorem dX10_more_44 : decode cX10_more 44 = .ok (.iconst 1, 1) := by decide +kernel
theorem dX10_more_45 : decode cX10_more 45 = .ok (.iadd, 1) := by decide +kernel
theorem dX10_more_46 : decode cX10_more 46 = .ok (.iastore, 1) := by decide +kernel
theorem dX10_more_47 : decode cX10_more 47 = .ok (.aload_n 0, 1) := by decide +kernel
theorem dX10_more_48 : decode cX10_more 48 = .ok (.iconst 0, 1) := by decide +kernel
theorem dX10_more_49 : decode cX10_more 49 = .ok (.putfield 45, 3) := by decide +kernel
theorem dX10_more_52 : decode cX10_more 52 = .ok (.iload 5, 2) := by decide +kernel
theorem dX10_more_54 : decode cX10_more 54 = .ok (.iconst 1, 1) := by decide +kernel
theorem dX10_more_55 : decode cX10_more 55 = .ok (.iadd, 1) := by decide +kernel
theorem dX10_more_56 : decode cX10_more 56 = .ok (.ireturn, 1) := by decide +kernel
theorem dX10_forget_0 : decode cX10_forget 0 = .ok (.iload_n 1, 1) := by decide +kernel
theorem dX10_forget_1 : decode cX10_forget 1 = .ok (.invokestatic 78, 3) := by decide +kernel
theorem dX10_forget_4 : decode cX10_forget 4 = .ok (.ifCond .ne 5, 3) := by decide +kernel
theorem dX10_forget_7 : decode cX10_forget 7 = .ok (.iconst (-1), 1) := by decide +kernel
theorem dX10_forget_8 : decode cX10_forget 8 = .ok (.ireturn, 1) := by decide +kernel
theorem dX10_forget_9 : decode cX10_forget 9 = .ok (.iload_n 2, 1) := by decide +kernel
theorem dX10_forget_10 : decode cX10_forget 10 = .ok (.iconst 1, 1) := by decide +kernel
theorem dX10_forget_11 : decode cX10_forget 11 = .ok (.iconst 2, 1) := by decide +kernel
theorem dX10_forget_12 : decode cX10_forget 12 = .ok (.invokestatic 41, 3) := by decide +kernel
theorem dX10_forget_15 : decode cX10_forget 15 = .ok (.ifCond .ne 6, 3) := by decide +kernel
theorem dX10_forget_18 : decode cX10_forget 18 = .ok (.bipush (-2), 2) := by decide +kernel
theorem dX10_forget_20 : decode cX10_forget 20 = .ok (.ireturn, 1) := by decide +kernel
theorem dX10_forget_21 : decode cX10_forget 21 = .ok (.iload_n 2, 1) := by decide +kernel
theorem dX10_forget_22 : decode cX10_forget 22 = .ok (.iconst 1, 1) := by decide +kernel
theorem dX10_forget_23 : decode cX10_forget 23 = .ok (.if_icmp .ne 8, 3) := by decide +kernel
theorem dX10_forget_26 : decode cX10_forget 26 = .ok (.bipush 18, 2) := by decide +kernel
theorem dX10_forget_28 : decode cX10_forget 28 = .ok (.goto 5, 3) := by decide +kernel
theorem dX10_forget_31 : decode cX10_forget 31 = .ok (.bipush 36, 2) := by decide +kernel
theorem dX10_forget_33 : decode cX10_forget 33 = .ok (.istore_n 3, 1) := by decide +kernel
theorem dX10_forget_34 : decode cX10_forget 34 = .ok (.aload_n 0, 1) := by decide +kernel
theorem dX10_forget_35 : decode cX10_forget 35 = .ok (.getfield 7, 3) := by decide +kernel
theorem dX10_forget_38 : decode cX10_forget 38 = .ok (.iload_n 3, 1) := by decide +kernel
theorem dX10_forget_39 : decode cX10_forget 39 = .ok (.iload_n 1, 1) := by decide +kernel
theorem dX10_forget_40 : decode cX10_forget 40 = .ok (.iadd, 1) := by decide +kernel
theorem dX10_forget_41 : decode cX10_forget 41 = .ok (.iaload, 1) := by decide +kernel
theorem dX10_forget_42 : decode cX10_forget 42 = .ok (.istore 4, 2) := by decide +kernel
theorem dX10_forget_44 : decode cX10_forget 44 = .ok (.aload_n 0, 1) := by decide +kernel
theorem dX10_forget_45 : decode cX10_forget 45 = .ok (.getfield 7, 3) := by decide +kernel
theorem dX10_forget_48 : decode cX10_forget 48 = .ok (.iload_n 3, 1) := by decide +kernel
theorem dX10_forget_49 : decode cX10_forget 49 = .ok (.iload_n 1, 1) := by decide +kernel
theorem dX10_forget_50 : decode cX10_forget 50 = .ok (.iadd, 1) := by decide +kernel
theorem dX10_forget_51 : decode cX10_forget 51 = .ok (.iconst 0, 1) := by decide +kernel
theorem dX10_forget_52 : decode cX10_forget 52 = .ok (.iastore, 1) := by decide +kernel
theorem dX10_forget_53 : decode cX10_forget 53 = .ok (.iload 4, 2) := by decide +kernel
theorem dX10_forget_55 : decode cX10_forget 55 = .ok (.ireturn, 1) := by decide +kernel
theorem dX10_set_0 : decode cX10_set 0 = .ok (.iload_n 1, 1) := by decide +kernel
theorem dX10_set_1 : decode cX10_set 1 = .ok (.invokestatic 78, 3) := by decide +kernel
theorem dX10_set_4 : decode cX10_set 4 = .ok (.ifCond .ne 5, 3) := by decide +kernel
theorem dX10_set_7 : decode cX10_set 7 = .ok (.iconst (-1), 1) := by decide +kernel
theorem dX10_set_8 : decode cX10_set 8 = .ok (.ireturn, 1) := by decide +kernel
theorem dX10_set_9 : decode cX10_set 9 = .ok (.iload_n 2, 1) := by decide +kernel
theorem dX10_set_10 : decode cX10_set 10 = .ok (.iconst 0, 1) := by decide +kernel
theorem dX10_set_11 : decode cX10_set 11 = .ok (.iconst 2, 1) := by decide +kernel
theorem dX10_set_12 : decode cX10_set 12 = .ok (.invokestatic 41, 3) := by decide +kernel
theorem dX10_set_15 : decode cX10_set 15 = .ok (.ifCond .eq 40, 3) := by decide +kernel
theorem dX10_set_18 : decode cX10_set 18 = .ok (.iload_n 3, 1) := by decide +kernel
theorem dX10_set_19 : decode cX10_set 19 = .ok (.iload_n 2, 1) := by decide +kernel
theorem dX10_set_20 : decode cX10_set 20 = .ok (.iconst 2, 1) := by decide +kernel
theorem dX10_set_21 : decode cX10_set 21 = .ok (.if_icmp .ne 7, 3) := by decide +kernel
theorem dX10_set_24 : decode cX10_set 24 = .ok (.iconst 0, 1) := by decide +kernel
theorem dX10_set_25 : decode cX10_set 25 = .ok (.goto 4, 3) := by decide +kernel
theorem dX10_set_28 : decode cX10_set 28 = .ok (.iconst 1, 1) := by decide +kernel
theorem dX10_set_29 : decode cX10_set 29 = .ok (.iload_n 2, 1) := by decide +kernel
theorem dX10_set_30 : decode cX10_set 30 = .ok (.ifCond .ne 8, 3) := by decide +kernel
theorem dX10_set_33 : decode cX10_set 33 = .ok (.bipush 7, 2) := by decide +kernel
theorem dX10_set_35 : decode cX10_set 35 = .ok (.goto 14, 3) := by decide +kernel
theorem dX10_set_38 : decode cX10_set 38 = .ok (.iload_n 2, 1) := by decide +kernel
theorem dX10_set_39 : decode cX10_set 39 = .ok (.iconst 1, 1) := by decide +kernel
theorem dX10_set_40 : decode cX10_set 40 = .ok (.if_icmp .ne 7, 3) := by decide +kernel
theorem dX10_set_43 : decode cX10_set 43 = .ok (.iconst 3, 1) := by decide +kernel
theorem dX10_set_44 : decode cX10_set 44 = .ok (.goto 5, 3) := by decide +kernel
theorem dX10_set_47 : decode cX10_set 47 = .ok (.bipush 60, 2) := by decide +kernel
theorem dX10_set_49 : decode cX10_set 49 = .ok (.invokestatic 41, 3) := by decide +kernel
theorem dX10_set_52 : decode cX10_set 52 = .ok (.ifCond .ne 6, 3) := by decide +kernel
theorem dX10_set_55 : decode cX10_set 55 = .ok (.bipush (-2), 2) := by decide +kernel
theorem dX10_set_57 : decode cX10_set 57 = .ok (.ireturn, 1) := by decide +kernel
theorem dX10_set_58 : decode cX10_set 58 = .ok (.bipush 42, 2) := by decide +kernel
theorem dX10_set_60 : decode cX10_set 60 = .ok (.bipush 6, 2) := by decide +kernel
theorem dX10_set_62 : decode cX10_set 62 = .ok (.iload_n 2, 1) := by decide +kernel
theorem dX10_set_63 : decode cX10_set 63 = .ok (.imul, 1) := by decide +kernel
theorem dX10_set_64 : decode cX10_set 64 = .ok (.iadd, 1) := by decide +kernel
theorem dX10_set_65 : decode cX10_set 65 = .ok (.iload_n 1, 1) := by decide +kernel
theorem dX10_set_66 : decode cX10_set 66 = .ok (.iadd, 1) := by decide +kernel
theorem dX10_set_67 : decode cX10_set 67 = .ok (.istore 4, 2) := by decide +kernel
theorem dX10_set_69 : decode cX10_set 69 = .ok (.aload_n 0, 1) := by decide +kernel
theorem dX10_set_70 : decode cX10_set 70 = .ok (.getfield 7, 3) := by decide +kernel
theorem dX10_set_73 : decode cX10_set 73 = .ok (.iload 4, 2) := by decide +kernel
theorem dX10_set_75 : decode cX10_set 75 = .ok (.iaload, 1) := by decide +kernel
theorem dX10_set_76 : decode cX10_set 76 = .ok (.istore 5, 2) := by decide +kernel
theorem dX10_set_78 : decode cX10_set 78 = .ok (.aload_n 0, 1) := by decide +kernel
theorem dX10_set_79 : decode cX10_set 79 = .ok (.getfield 7, 3) := by decide +kernel
theorem dX10_set_82 : decode cX10_set 82 = .ok (.iload 4, 2) := by decide +kernel
theorem dX10_set_84 : decode cX10_set 84 = .ok (.iload_n 3, 1) := by decide +kernel
theorem dX10_set_85 : decode cX10_set 85 = .ok (.iastore, 1) := by decide +kernel
theorem dX10_set_86 : decode cX10_set 86 = .ok (.iload 5, 2) := by decide +kernel
theorem dX10_set_88 : decode cX10_set 88 = .ok (.ireturn, 1) := by decide +kernel
theorem dX10_areNear_0 : decode cX10_areNear 0 = .ok (.aload_n 0, 1) := by decide +kernel
theorem dX10_areNear_1 : decode cX10_areNear 1 = .ok (.getfield 7, 3) := by decide +kernel
theorem dX10_areNear_4 : decode cX10_areNear 4 = .ok (.bipush 60, 2) := by decide +kernel
theorem dX10_areNear_6 : decode cX10_areNear 6 = .ok (.bipush 6, 2) := by decide +kernel
theorem dX10_areNear_8 : decode cX10_areNear 8 = .ok (.iload_n 1, 1) := by decide +kernel
theorem dX10_areNear_9 : decode cX10_areNear 9 = .ok (.imul, 1) := by decide +kernel
theorem dX10_areNear_10 : decode cX10_areNear 10 = .ok (.iadd, 1) := by decide +kernel
theorem dX10_areNear_11 : decode cX10_areNear 11 = .ok (.iload_n 2, 1) := by decide +kernel
theorem dX10_areNear_12 : decode cX10_areNear 12 = .ok (.iadd, 1) := by decide +kernel
theorem dX10_areNear_13 : decode cX10_areNear 13 = .ok (.iaload, 1) := by decide +kernel
theorem dX10_areNear_14 : decode cX10_areNear 14 = .ok (.iconst 1, 1) := by decide +kernel
theorem dX10_areNear_15 : decode cX10_areNear 15 = .ok (.if_icmp .ne 7, 3) := by decide +kernel
theorem dX10_areNear_18 : decode cX10_areNear 18 = .ok (.iconst 1, 1) := by decide +kernel
theorem dX10_areNear_19 : decode cX10_areNear 19 = .ok (.goto 4, 3) := by decide +kernel
theorem dX10_areNear_22 : decode cX10_areNear 22 = .ok (.iconst 0, 1) := by decide +kernel
theorem dX10_areNear_23 : decode cX10_areNear 23 = .ok (.ireturn, 1) := by decide +kernel
theorem dX10_near_0 : decode cX10_near 0 = .ok (.iload_n 1, 1) := by decide +kernel
theorem dX10_near_1 : decode cX10_near 1 = .ok (.invokestatic 78, 3) := by decide +kernel
theorem dX10_near_4 : decode cX10_near 4 = .ok (.ifCond .eq 10, 3) := by decide +kernel
theorem dX10_near_7 : decode cX10_near 7 = .ok (.iload_n 2, 1) := by decide +kernel
theorem dX10_near_8 : decode cX10_near 8 = .ok (.invokestatic 78, 3) := by decide +kernel
theorem dX10_near_11 : decode cX10_near 11 = .ok (.ifCond .ne 5, 3) := by decide +kernel
theorem dX10_near_14 : decode cX10_near 14 = .ok (.iconst (-1), 1) := by decide +kernel
theorem dX10_near_15 : decode cX10_near 15 = .ok (.ireturn, 1) := by decide +kernel
theorem dX10_near_16 : decode cX10_near 16 = .ok (.iload_n 3, 1) := by decide +kernel
theorem dX10_near_17 : decode cX10_near 17 = .ok (.iconst 0, 1) := by decide +kernel
theorem dX10_near_18 : decode cX10_near 18 = .ok (.iconst 1, 1) := by decide +kernel
theorem dX10_near_19 : decode cX10_near 19 = .ok (.invokestatic 41, 3) := by decide +kernel
theorem dX10_near_22 : decode cX10_near 22 = .ok (.ifCond .eq 8, 3) := by decide +kernel
theorem dX10_near_25 : decode cX10_near 25 = .ok (.iload_n 1, 1) := by decide +kernel
theorem dX10_near_26 : decode cX10_near 26 = .ok (.iload_n 2, 1) := by decide +kernel
theorem dX10_near_27 : decode cX10_near 27 = .ok (.if_icmp .ne 6, 3) := by decide +kernel
theorem dX10_near_30 : decode cX10_near 30 = .ok (.bipush (-2), 2) := by decide +kernel
theorem dX10_near_32 : decode cX10_near 32 = .ok (.ireturn, 1) := by decide +kernel
theorem dX10_near_33 : decode cX10_near 33 = .ok (.aload_n 0, 1) := by decide +kernel
theorem dX10_near_34 : decode cX10_near 34 = .ok (.getfield 7, 3) := by decide +kernel
theorem dX10_near_37 : decode cX10_near 37 = .ok (.bipush 60, 2) := by decide +kernel
theorem dX10_near_39 : decode cX10_near 39 = .ok (.bipush 6, 2) := by decide +kernel
theorem dX10_near_41 : decode cX10_near 41 = .ok (.iload_n 1, 1) := by decide +kernel
theorem dX10_near_42 : decode cX10_near 42 = .ok (.imul, 1) := by decide +kernel
theorem dX10_near_43 : decode cX10_near 43 = .ok (.iadd, 1) := by decide +kernel
theorem dX10_near_44 : decode cX10_near 44 = .ok (.iload_n 2, 1) := by decide +kernel
theorem dX10_near_45 : decode cX10_near 45 = .ok (.iadd, 1) := by decide +kernel
theorem dX10_near_46 : decode cX10_near 46 = .ok (.iload_n 3, 1) := by decide +kernel
theorem dX10_near_47 : decode cX10_near 47 = .ok (.iastore, 1) := by decide +kernel
theorem dX10_near_48 : decode cX10_near 48 = .ok (.aload_n 0, 1) := by decide +kernel
theorem dX10_near_49 : decode cX10_near 49 = .ok (.getfield 7, 3) := by decide +kernel
theorem dX10_near_52 : decode cX10_near 52 = .ok (.bipush 60, 2) := by decide +kernel
theorem dX10_near_54 : decode cX10_near 54 = .ok (.bipush 6, 2) := by decide +kernel
theorem dX10_near_56 : decode cX10_near 56 = .ok (.iload_n 2, 1) := by decide +kernel
theorem dX10_near_57 : decode cX10_near 57 = .ok (.imul, 1) := by decide +kernel
theorem dX10_near_58 : decode cX10_near 58 = .ok (.iadd, 1) := by decide +kernel
theorem dX10_near_59 : decode cX10_near 59 = .ok (.iload_n 1, 1) := by decide +kernel
theorem dX10_near_60 : decode cX10_near 60 = .ok (.iadd, 1) := by decide +kernel
theorem dX10_near_61 : decode cX10_near 61 = .ok (.iload_n 3, 1) := by decide +kernel
theorem dX10_near_62 : decode cX10_near 62 = .ok (.iastore, 1) := by decide +kernel
theorem dX10_near_63 : decode cX10_near 63 = .ok (.iconst 0, 1) := by decide +kernel
theorem dX10_near_64 : decode cX10_near 64 = .ok (.istore 4, 2) := by decide +kernel
theorem dX10_near_66 : decode cX10_near 66 = .ok (.iconst 0, 1) := by decide +kernel
theorem dX10_near_67 : decode cX10_near 67 = .ok (.istore 5, 2) := by decide +kernel
theorem dX10_near_69 : decode cX10_near 69 = .ok (.iload 5, 2) := by decide +kernel
theorem dX10_near_71 : decode cX10_near 71 = .ok (.bipush 6, 2) := by decide +kernel
theorem dX10_near_73 : decode cX10_near 73 = .ok (.if_icmp .ge 29, 3) := by decide +kernel
theorem dX10_near_76 : decode cX10_near 76 = .ok (.iload 4, 2) := by decide +kernel
theorem dX10_near_78 : decode cX10_near 78 = .ok (.aload_n 0, 1) := by decide +kernel
theorem dX10_near_79 : decode cX10_near 79 = .ok (.iload_n 1, 1) := by decide +kernel
theorem dX10_near_80 : decode cX10_near 80 = .ok (.iload 5, 2) := by decide +kernel
theorem dX10_near_82 : decode cX10_near 82 = .ok (.invokevirtual 91, 3) := by decide +kernel
theorem dX10_near_85 : decode cX10_near 85 = .ok (.ifCond .eq 7, 3) := by decide +kernel
theorem dX10_near_88 : decode cX10_near 88 = .ok (.iconst 1, 1) := by decide +kernel
theorem dX10_near_89 : decode cX10_near 89 = .ok (.goto 4, 3) := by decide +kernel
theorem dX10_near_92 : decode cX10_near 92 = .ok (.iconst 0, 1) := by decide +kernel
theorem dX10_near_93 : decode cX10_near 93 = .ok (.iadd, 1) := by decide +kernel
theorem dX10_near_94 : decode cX10_near 94 = .ok (.istore 4, 2) := by decide +kernel
theorem dX10_near_96 : decode cX10_near 96 = .ok (.iinc 5 1, 3) := by decide +kernel
theorem dX10_near_99 : decode cX10_near 99 = .ok (.goto (-30), 3) := by decide +kernel
theorem dX10_near_102 : decode cX10_near 102 = .ok (.iload 4, 2) := by decide +kernel
theorem dX10_near_104 : decode cX10_near 104 = .ok (.ireturn, 1) := by decide +kernel
theorem dX10_slot_0 : decode cX10_slot 0 = .ok (.sipush 156, 3) := by decide +kernel
theorem dX10_slot_3 : decode cX10_slot 3 = .ok (.bipush 12, 2) := by decide +kernel
theorem dX10_slot_5 : decode cX10_slot 5 = .ok (.bipush 12, 2) := by decide +kernel
theorem dX10_slot_7 : decode cX10_slot 7 = .ok (.iload_n 0, 1) := by decide +kernel
theorem dX10_slot_8 : decode cX10_slot 8 = .ok (.imul, 1) := by decide +kernel
theorem dX10_slot_9 : decode cX10_slot 9 = .ok (.iload_n 1, 1) := by decide +kernel
theorem dX10_slot_10 : decode cX10_slot 10 = .ok (.iadd, 1) := by decide +kernel
theorem dX10_slot_11 : decode cX10_slot 11 = .ok (.imul, 1) := by decide +kernel
theorem dX10_slot_12 : decode cX10_slot 12 = .ok (.iadd, 1) := by decide +kernel
theorem dX10_slot_13 : decode cX10_slot 13 = .ok (.ireturn, 1) := by decide +kernel
theorem dX10_known_0 : decode cX10_known 0 = .ok (.sipush 1026, 3) := by decide +kernel
theorem dX10_known_3 : decode cX10_known 3 = .ok (.iconst 3, 1) := by decide +kernel
theorem dX10_known_4 : decode cX10_known 4 = .ok (.bipush 16, 2) := by decide +kernel
theorem dX10_known_6 : decode cX10_known 6 = .ok (.iload_n 0, 1) := by decide +kernel
theorem dX10_known_7 : decode cX10_known 7 = .ok (.imul, 1) := by decide +kernel
theorem dX10_known_8 : decode cX10_known 8 = .ok (.iload_n 1, 1) := by decide +kernel
theorem dX10_known_9 : decode cX10_known 9 = .ok (.iadd, 1) := by decide +kernel
theorem dX10_known_10 : decode cX10_known 10 = .ok (.imul, 1) := by decide +kernel
theorem dX10_known_11 : decode cX10_known 11 = .ok (.iadd, 1) := by decide +kernel
theorem dX10_known_12 : decode cX10_known 12 = .ok (.ireturn, 1) := by decide +kernel
theorem dX10_keep_0 : decode cX10_keep 0 = .ok (.aload_n 0, 1) := by decide +kernel
theorem dX10_keep_1 : decode cX10_keep 1 = .ok (.getfield 7, 3) := by decide +kernel
theorem dX10_keep_4 : decode cX10_keep 4 = .ok (.sipush 150, 3) := by decide +kernel
theorem dX10_keep_7 : decode cX10_keep 7 = .ok (.iload_n 1, 1) := by decide +kernel
theorem dX10_keep_8 : decode cX10_keep 8 = .ok (.iadd, 1) := by decide +kernel
theorem dX10_keep_9 : decode cX10_keep 9 = .ok (.iaload, 1) := by decide +kernel
theorem dX10_keep_10 : decode cX10_keep 10 = .ok (.istore_n 3, 1) := by decide +kernel
theorem dX10_keep_11 : decode cX10_keep 11 = .ok (.iload_n 3, 1) := by decide +kernel
theorem dX10_keep_12 : decode cX10_keep 12 = .ok (.bipush 12, 2) := by decide +kernel
theorem dX10_keep_14 : decode cX10_keep 14 = .ok (.if_icmp .ne 5, 3) := by decide +kernel
theorem dX10_keep_17 : decode cX10_keep 17 = .ok (.iconst 0, 1) := by decide +kernel
theorem dX10_keep_18 : decode cX10_keep 18 = .ok (.ireturn, 1) := by decide +kernel
theorem dX10_keep_19 : decode cX10_keep 19 = .ok (.iconst 0, 1) := by decide +kernel
theorem dX10_keep_20 : decode cX10_keep 20 = .ok (.istore 4, 2) := by decide +kernel
theorem dX10_keep_22 : decode cX10_keep 22 = .ok (.iload 4, 2) := by decide +kernel
theorem dX10_keep_24 : decode cX10_keep 24 = .ok (.bipush 11, 2) := by decide +kernel
theorem dX10_keep_26 : decode cX10_keep 26 = .ok (.if_icmp .ge 29, 3) := by decide +kernel
theorem dX10_keep_29 : decode cX10_keep 29 = .ok (.aload_n 0, 1) := by decide +kernel
theorem dX10_keep_30 : decode cX10_keep 30 = .ok (.getfield 7, 3) := by decide +kernel
theorem dX10_keep_33 : decode cX10_keep 33 = .ok (.iload_n 1, 1) := by decide +kernel
theorem dX10_keep_34 : decode cX10_keep 34 = .ok (.iload_n 3, 1) := by decide +kernel
theorem dX10_keep_35 : decode cX10_keep 35 = .ok (.invokestatic 95, 3) := by decide +kernel
theorem dX10_keep_38 : decode cX10_keep 38 = .ok (.iload 4, 2) := by decide +kernel
theorem dX10_keep_40 : decode cX10_keep 40 = .ok (.iadd, 1) := by decide +kernel
theorem dX10_keep_41 : decode cX10_keep 41 = .ok (.aload_n 0, 1) := by decide +kernel
theorem dX10_keep_42 : decode cX10_keep 42 = .ok (.getfield 23, 3) := by decide +kernel
theorem dX10_keep_45 : decode cX10_keep 45 = .ok (.iload 4, 2) := by decide +kernel
theorem dX10_keep_47 : decode cX10_keep 47 = .ok (.iaload, 1) := by decide +kernel
theorem dX10_keep_48 : decode cX10_keep 48 = .ok (.iastore, 1) := by decide +kernel
theorem dX10_keep_49 : decode cX10_keep 49 = .ok (.iinc 4 1, 3) := by decide +kernel
theorem dX10_keep_52 : decode cX10_keep 52 = .ok (.goto (-30), 3) := by decide +kernel
theorem dX10_keep_55 : decode cX10_keep 55 = .ok (.aload_n 0, 1) := by decide +kernel
theorem dX10_keep_56 : decode cX10_keep 56 = .ok (.getfield 7, 3) := by decide +kernel
theorem dX10_keep_59 : decode cX10_keep 59 = .ok (.iload_n 1, 1) := by decide +kernel
theorem dX10_keep_60 : decode cX10_keep 60 = .ok (.iload_n 3, 1) := by decide +kernel
theorem dX10_keep_61 : decode cX10_keep 61 = .ok (.invokestatic 95, 3) := by decide +kernel
theorem dX10_keep_64 : decode cX10_keep 64 = .ok (.bipush 11, 2) := by decide +kernel
theorem dX10_keep_66 : decode cX10_keep 66 = .ok (.iadd, 1) := by decide +kernel
theorem dX10_keep_67 : decode cX10_keep 67 = .ok (.iload_n 2, 1) := by decide +kernel
theorem dX10_keep_68 : decode cX10_keep 68 = .ok (.iastore, 1) := by decide +kernel
theorem dX10_keep_69 : decode cX10_keep 69 = .ok (.aload_n 0, 1) := by decide +kernel
theorem dX10_keep_70 : decode cX10_keep 70 = .ok (.getfield 7, 3) := by decide +kernel
theorem dX10_keep_73 : decode cX10_keep 73 = .ok (.sipush 150, 3) := by decide +kernel
theorem dX10_keep_76 : decode cX10_keep 76 = .ok (.iload_n 1, 1) := by decide +kernel
theorem dX10_keep_77 : decode cX10_keep 77 = .ok (.iadd, 1) := by decide +kernel
theorem dX10_keep_78 : decode cX10_keep 78 = .ok (.dup2, 1) := by decide +kernel
theorem dX10_keep_79 : decode cX10_keep 79 = .ok (.iaload, 1) := by decide +kernel
theorem dX10_keep_80 : decode cX10_keep 80 = .ok (.iconst 1, 1) := by decide +kernel
theorem dX10_keep_81 : decode cX10_keep 81 = .ok (.iadd, 1) := by decide +kernel
theorem dX10_keep_82 : decode cX10_keep 82 = .ok (.iastore, 1) := by decide +kernel
theorem dX10_keep_83 : decode cX10_keep 83 = .ok (.iconst 1, 1) := by decide +kernel
theorem dX10_keep_84 : decode cX10_keep 84 = .ok (.ireturn, 1) := by decide +kernel
theorem dX10_placeKnown_0 : decode cX10_placeKnown 0 = .ok (.bipush (-6), 2) := by decide +kernel
theorem dX10_placeKnown_2 : decode cX10_placeKnown 2 = .ok (.istore 4, 2) := by decide +kernel
theorem dX10_placeKnown_4 : decode cX10_placeKnown 4 = .ok (.iconst 0, 1) := by decide +kernel
theorem dX10_placeKnown_5 : decode cX10_placeKnown 5 = .ok (.istore 5, 2) := by decide +kernel
theorem dX10_placeKnown_7 : decode cX10_placeKnown 7 = .ok (.iload 5, 2) := by decide +kernel
theorem dX10_placeKnown_9 : decode cX10_placeKnown 9 = .ok (.aload_n 0, 1) := by decide +kernel
theorem dX10_placeKnown_10 : decode cX10_placeKnown 10 = .ok (.getfield 7, 3) := by decide +kernel
theorem dX10_placeKnown_13 : decode cX10_placeKnown 13 = .ok (.sipush 1020, 3) := by decide +kernel
theorem dX10_placeKnown_16 : decode cX10_placeKnown 16 = .ok (.iload_n 1, 1) := by decide +kernel
theorem dX10_placeKnown_17 : decode cX10_placeKnown 17 = .ok (.iadd, 1) := by decide +kernel
theorem dX10_placeKnown_18 : decode cX10_placeKnown 18 = .ok (.iaload, 1) := by decide +kernel
theorem dX10_placeKnown_19 : decode cX10_placeKnown 19 = .ok (.if_icmp .ge 50, 3) := by decide +kernel
theorem dX10_placeKnown_22 : decode cX10_placeKnown 22 = .ok (.aload_n 0, 1) := by decide +kernel
theorem dX10_placeKnown_23 : decode cX10_placeKnown 23 = .ok (.getfield 7, 3) := by decide +kernel
theorem dX10_placeKnown_26 : decode cX10_placeKnown 26 = .ok (.iload_n 1, 1) := by decide +kernel
theorem dX10_placeKnown_27 : decode cX10_placeKnown 27 = .ok (.iload 5, 2) := by decide +kernel
theorem dX10_placeKnown_29 : decode cX10_placeKnown 29 = .ok (.invokestatic 98, 3) := by decide +kernel
theorem dX10_placeKnown_32 : decode cX10_placeKnown 32 = .ok (.iaload, 1) := by decide +kernel
theorem dX10_placeKnown_33 : decode cX10_placeKnown 33 = .ok (.iload_n 2, 1) := by decide +kernel
theorem dX10_placeKnown_34 : decode cX10_placeKnown 34 = .ok (.if_icmp .ne 25, 3) := by decide +kernel
theorem dX10_placeKnown_37 : decode cX10_placeKnown 37 = .ok (.aload_n 0, 1) := by decide +kernel
theorem dX10_placeKnown_38 : decode cX10_placeKnown 38 = .ok (.getfield 7, 3) := by decide +kernel
theorem dX10_placeKnown_41 : decode cX10_placeKnown 41 = .ok (.iload_n 1, 1) := by decide +kernel
theorem dX10_placeKnown_42 : decode cX10_placeKnown 42 = .ok (.iload 5, 2) := by decide +kernel
theorem dX10_placeKnown_44 : decode cX10_placeKnown 44 = .ok (.invokestatic 98, 3) := by decide +kernel
theorem dX10_placeKnown_47 : decode cX10_placeKnown 47 = .ok (.iconst 1, 1) := by decide +kernel
theorem dX10_placeKnown_48 : decode cX10_placeKnown 48 = .ok (.iadd, 1) := by decide +kernel
theorem dX10_placeKnown_49 : decode cX10_placeKnown 49 = .ok (.iaload, 1) := by decide +kernel
theorem dX10_placeKnown_50 : decode cX10_placeKnown 50 = .ok (.iload_n 3, 1) := by decide +kernel
theorem dX10_placeKnown_51 : decode cX10_placeKnown 51 = .ok (.if_icmp .ne 8, 3) := by decide +kernel
theorem dX10_placeKnown_54 : decode cX10_placeKnown 54 = .ok (.iload 5, 2) := by decide +kernel
theorem dX10_placeKnown_56 : decode cX10_placeKnown 56 = .ok (.goto 5, 3) := by decide +kernel
theorem dX10_placeKnown_59 : decode cX10_placeKnown 59 = .ok (.iload 4, 2) := by decide +kernel
theorem dX10_placeKnown_61 : decode cX10_placeKnown 61 = .ok (.istore 4, 2) := by decide +kernel
theorem dX10_placeKnown_63 : decode cX10_placeKnown 63 = .ok (.iinc 5 1, 3) := by decide +kernel
theorem dX10_placeKnown_66 : decode cX10_placeKnown 66 = .ok (.goto (-59), 3) := by decide +kernel
theorem dX10_placeKnown_69 : decode cX10_placeKnown 69 = .ok (.iload 4, 2) := by decide +kernel
theorem dX10_placeKnown_71 : decode cX10_placeKnown 71 = .ok (.ireturn, 1) := by decide +kernel
theorem dX10_unknow_0 : decode cX10_unknow 0 = .ok (.aload_n 0, 1) := by decide +kernel
theorem dX10_unknow_1 : decode cX10_unknow 1 = .ok (.getfield 7, 3) := by decide +kernel
theorem dX10_unknow_4 : decode cX10_unknow 4 = .ok (.sipush 1020, 3) := by decide +kernel
theorem dX10_unknow_7 : decode cX10_unknow 7 = .ok (.iload_n 1, 1) := by decide +kernel
theorem dX10_unknow_8 : decode cX10_unknow 8 = .ok (.iadd, 1) := by decide +kernel
theorem dX10_unknow_9 : decode cX10_unknow 9 = .ok (.dup2, 1) := by decide +kernel
theorem dX10_unknow_10 : decode cX10_unknow 10 = .ok (.iaload, 1) := by decide +kernel
theorem dX10_unknow_11 : decode cX10_unknow 11 = .ok (.iconst 1, 1) := by decide +kernel
theorem dX10_unknow_12 : decode cX10_unknow 12 = .ok (.isub, 1) := by decide +kernel
theorem dX10_unknow_13 : decode cX10_unknow 13 = .ok (.iastore, 1) := by decide +kernel
theorem dX10_unknow_14 : decode cX10_unknow 14 = .ok (.iload_n 2, 1) := by decide +kernel
theorem dX10_unknow_15 : decode cX10_unknow 15 = .ok (.istore_n 3, 1) := by decide +kernel
theorem dX10_unknow_16 : decode cX10_unknow 16 = .ok (.iload_n 3, 1) := by decide +kernel
theorem dX10_unknow_17 : decode cX10_unknow 17 = .ok (.aload_n 0, 1) := by decide +kernel
theorem dX10_unknow_18 : decode cX10_unknow 18 = .ok (.getfield 7, 3) := by decide +kernel
theorem dX10_unknow_21 : decode cX10_unknow 21 = .ok (.sipush 1020, 3) := by decide +kernel
theorem dX10_unknow_24 : decode cX10_unknow 24 = .ok (.iload_n 1, 1) := by decide +kernel
theorem dX10_unknow_25 : decode cX10_unknow 25 = .ok (.iadd, 1) := by decide +kernel
theorem dX10_unknow_26 : decode cX10_unknow 26 = .ok (.iaload, 1) := by decide +kernel
theorem dX10_unknow_27 : decode cX10_unknow 27 = .ok (.if_icmp .ge 52, 3) := by decide +kernel
theorem dX10_unknow_30 : decode cX10_unknow 30 = .ok (.iconst 0, 1) := by decide +kernel
theorem dX10_unknow_31 : decode cX10_unknow 31 = .ok (.istore 4, 2) := by decide +kernel
theorem dX10_unknow_33 : decode cX10_unknow 33 = .ok (.iload 4, 2) := by decide +kernel
theorem dX10_unknow_35 : decode cX10_unknow 35 = .ok (.iconst 3, 1) := by decide +kernel
theorem dX10_unknow_36 : decode cX10_unknow 36 = .ok (.if_icmp .ge 37, 3) := by decide +kernel
theorem dX10_unknow_39 : decode cX10_unknow 39 = .ok (.aload_n 0, 1) := by decide +kernel
theorem dX10_unknow_40 : decode cX10_unknow 40 = .ok (.getfield 7, 3) := by decide +kernel
theorem dX10_unknow_43 : decode cX10_unknow 43 = .ok (.iload_n 1, 1) := by decide +kernel
theorem dX10_unknow_44 : decode cX10_unknow 44 = .ok (.iload_n 3, 1) := by decide +kernel
theorem dX10_unknow_45 : decode cX10_unknow 45 = .ok (.invokestatic 98, 3) := by decide +kernel
theorem dX10_unknow_48 : decode cX10_unknow 48 = .ok (.iload 4, 2) := by decide +kernel
theorem dX10_unknow_50 : decode cX10_unknow 50 = .ok (.iadd, 1) := by decide +kernel
theorem dX10_unknow_51 : decode cX10_unknow 51 = .ok (.aload_n 0, 1) := by decide +kernel
theorem dX10_unknow_52 : decode cX10_unknow 52 = .ok (.getfield 7, 3) := by decide +kernel
theorem dX10_unknow_55 : decode cX10_unknow 55 = .ok (.iload_n 1, 1) := by decide +kernel
theorem dX10_unknow_56 : decode cX10_unknow 56 = .ok (.iload_n 3, 1) := by decide +kernel
theorem dX10_unknow_57 : decode cX10_unknow 57 = .ok (.iconst 1, 1) := by decide +kernel
theorem dX10_unknow_58 : decode cX10_unknow 58 = .ok (.iadd, 1) := by decide +kernel
theorem dX10_unknow_59 : decode cX10_unknow 59 = .ok (.invokestatic 98, 3) := by decide +kernel
theorem dX10_unknow_62 : decode cX10_unknow 62 = .ok (.iload 4, 2) := by decide +kernel
theorem dX10_unknow_64 : decode cX10_unknow 64 = .ok (.iadd, 1) := by decide +kernel
theorem dX10_unknow_65 : decode cX10_unknow 65 = .ok (.iaload, 1) := by decide +kernel
theorem dX10_unknow_66 : decode cX10_unknow 66 = .ok (.iastore, 1) := by decide +kernel
theorem dX10_unknow_67 : decode cX10_unknow 67 = .ok (.iinc 4 1, 3) := by decide +kernel
theorem dX10_unknow_70 : decode cX10_unknow 70 = .ok (.goto (-37), 3) := by decide +kernel
theorem dX10_unknow_73 : decode cX10_unknow 73 = .ok (.iinc 3 1, 3) := by decide +kernel
theorem dX10_unknow_76 : decode cX10_unknow 76 = .ok (.goto (-60), 3) := by decide +kernel
theorem dX10_unknow_79 : decode cX10_unknow 79 = .ok (.return_, 1) := by decide +kernel
theorem dX10_know_0 : decode cX10_know 0 = .ok (.aload_n 0, 1) := by decide +kernel
theorem dX10_know_1 : decode cX10_know 1 = .ok (.getfield 7, 3) := by decide +kernel
theorem dX10_know_4 : decode cX10_know 4 = .ok (.sipush 1020, 3) := by decide +kernel
theorem dX10_know_7 : decode cX10_know 7 = .ok (.iload_n 1, 1) := by decide +kernel
theorem dX10_know_8 : decode cX10_know 8 = .ok (.iadd, 1) := by decide +kernel
theorem dX10_know_9 : decode cX10_know 9 = .ok (.iaload, 1) := by decide +kernel
theorem dX10_know_10 : decode cX10_know 10 = .ok (.bipush 16, 2) := by decide +kernel
theorem dX10_know_12 : decode cX10_know 12 = .ok (.if_icmp .ne 9, 3) := by decide +kernel
theorem dX10_know_15 : decode cX10_know 15 = .ok (.aload_n 0, 1) := by decide +kernel
theorem dX10_know_16 : decode cX10_know 16 = .ok (.iload_n 1, 1) := by decide +kernel
theorem dX10_know_17 : decode cX10_know 17 = .ok (.iconst 0, 1) := by decide +kernel
theorem dX10_know_18 : decode cX10_know 18 = .ok (.invokevirtual 101, 3) := by decide +kernel
theorem dX10_know_21 : decode cX10_know 21 = .ok (.aload_n 0, 1) := by decide +kernel
theorem dX10_know_22 : decode cX10_know 22 = .ok (.getfield 7, 3) := by decide +kernel
theorem dX10_know_25 : decode cX10_know 25 = .ok (.sipush 1020, 3) := by decide +kernel
theorem dX10_know_28 : decode cX10_know 28 = .ok (.iload_n 1, 1) := by decide +kernel
theorem dX10_know_29 : decode cX10_know 29 = .ok (.iadd, 1) := by decide +kernel
theorem dX10_know_30 : decode cX10_know 30 = .ok (.iaload, 1) := by decide +kernel
theorem dX10_know_31 : decode cX10_know 31 = .ok (.istore 4, 2) := by decide +kernel
theorem dX10_know_33 : decode cX10_know 33 = .ok (.aload_n 0, 1) := by decide +kernel
theorem dX10_know_34 : decode cX10_know 34 = .ok (.getfield 7, 3) := by decide +kernel
theorem dX10_know_37 : decode cX10_know 37 = .ok (.iload_n 1, 1) := by decide +kernel
theorem dX10_know_38 : decode cX10_know 38 = .ok (.iload 4, 2) := by decide +kernel
theorem dX10_know_40 : decode cX10_know 40 = .ok (.invokestatic 98, 3) := by decide +kernel
theorem dX10_know_43 : decode cX10_know 43 = .ok (.iload_n 2, 1) := by decide +kernel
theorem dX10_know_44 : decode cX10_know 44 = .ok (.iastore, 1) := by decide +kernel
theorem dX10_know_45 : decode cX10_know 45 = .ok (.aload_n 0, 1) := by decide +kernel
theorem dX10_know_46 : decode cX10_know 46 = .ok (.getfield 7, 3) := by decide +kernel
theorem dX10_know_49 : decode cX10_know 49 = .ok (.iload_n 1, 1) := by decide +kernel
theorem dX10_know_50 : decode cX10_know 50 = .ok (.iload 4, 2) := by decide +kernel
theorem dX10_know_52 : decode cX10_know 52 = .ok (.invokestatic 98, 3) := by decide +kernel
theorem dX10_know_55 : decode cX10_know 55 = .ok (.iconst 1, 1) := by decide +kernel
theorem dX10_know_56 : decode cX10_know 56 = .ok (.iadd, 1) := by decide +kernel
theorem dX10_know_57 : decode cX10_know 57 = .ok (.iload_n 3, 1) := by decide +kernel
theorem dX10_know_58 : decode cX10_know 58 = .ok (.iastore, 1) := by decide +kernel
theorem dX10_know_59 : decode cX10_know 59 = .ok (.aload_n 0, 1) := by decide +kernel
theorem dX10_know_60 : decode cX10_know 60 = .ok (.getfield 7, 3) := by decide +kernel
theorem dX10_know_63 : decode cX10_know 63 = .ok (.iload_n 1, 1) := by decide +kernel
theorem dX10_know_64 : decode cX10_know 64 = .ok (.iload 4, 2) := by decide +kernel
theorem dX10_know_66 : decode cX10_know 66 = .ok (.invokestatic 98, 3) := by decide +kernel
theorem dX10_know_69 : decode cX10_know 69 = .ok (.iconst 2, 1) := by decide +kernel
theorem dX10_know_70 : decode cX10_know 70 = .ok (.iadd, 1) := by decide +kernel
theorem dX10_know_71 : decode cX10_know 71 = .ok (.aload_n 0, 1) := by decide +kernel
theorem dX10_know_72 : decode cX10_know 72 = .ok (.getfield 7, 3) := by decide +kernel
theorem dX10_know_75 : decode cX10_know 75 = .ok (.sipush 1386, 3) := by decide +kernel
theorem dX10_know_78 : decode cX10_know 78 = .ok (.iaload, 1) := by decide +kernel
theorem dX10_know_79 : decode cX10_know 79 = .ok (.iastore, 1) := by decide +kernel
theorem dX10_know_80 : decode cX10_know 80 = .ok (.aload_n 0, 1) := by decide +kernel
theorem dX10_know_81 : decode cX10_know 81 = .ok (.getfield 7, 3) := by decide +kernel
theorem dX10_know_84 : decode cX10_know 84 = .ok (.sipush 1020, 3) := by decide +kernel
theorem dX10_know_87 : decode cX10_know 87 = .ok (.iload_n 1, 1) := by decide +kernel
theorem dX10_know_88 : decode cX10_know 88 = .ok (.iadd, 1) := by decide +kernel
theorem dX10_know_89 : decode cX10_know 89 = .ok (.dup2, 1) := by decide +kernel
theorem dX10_know_90 : decode cX10_know 90 = .ok (.iaload, 1) := by decide +kernel
theorem dX10_know_91 : decode cX10_know 91 = .ok (.iconst 1, 1) := by decide +kernel
theorem dX10_know_92 : decode cX10_know 92 = .ok (.iadd, 1) := by decide +kernel
theorem dX10_know_93 : decode cX10_know 93 = .ok (.iastore, 1) := by decide +kernel
theorem dX10_know_94 : decode cX10_know 94 = .ok (.return_, 1) := by decide +kernel
theorem dX10_begin_0 : decode cX10_begin 0 = .ok (.aload_n 0, 1) := by decide +kernel
theorem dX10_begin_1 : decode cX10_begin 1 = .ok (.iload_n 1, 1) := by decide +kernel
theorem dX10_begin_2 : decode cX10_begin 2 = .ok (.aload_n 0, 1) := by decide +kernel
theorem dX10_begin_3 : decode cX10_begin 3 = .ok (.getfield 23, 3) := by decide +kernel
theorem dX10_begin_6 : decode cX10_begin 6 = .ok (.iconst 0, 1) := by decide +kernel
theorem dX10_begin_7 : decode cX10_begin 7 = .ok (.iaload, 1) := by decide +kernel
theorem dX10_begin_8 : decode cX10_begin 8 = .ok (.aload_n 0, 1) := by decide +kernel
theorem dX10_begin_9 : decode cX10_begin 9 = .ok (.getfield 23, 3) := by decide +kernel
theorem dX10_begin_12 : decode cX10_begin 12 = .ok (.iconst 1, 1) := by decide +kernel
theorem dX10_begin_13 : decode cX10_begin 13 = .ok (.iaload, 1) := by decide +kernel
theorem dX10_begin_14 : decode cX10_begin 14 = .ok (.invokevirtual 105, 3) := by decide +kernel
theorem dX10_begin_17 : decode cX10_begin 17 = .ok (.istore_n 2, 1) := by decide +kernel
theorem dX10_begin_18 : decode cX10_begin 18 = .ok (.iload_n 2, 1) := by decide +kernel
theorem dX10_begin_19 : decode cX10_begin 19 = .ok (.ifCond .lt 9, 3) := by decide +kernel
theorem dX10_begin_22 : decode cX10_begin 22 = .ok (.aload_n 0, 1) := by decide +kernel
theorem dX10_begin_23 : decode cX10_begin 23 = .ok (.iload_n 1, 1) := by decide +kernel
theorem dX10_begin_24 : decode cX10_begin 24 = .ok (.iload_n 2, 1) := by decide +kernel
theorem dX10_begin_25 : decode cX10_begin 25 = .ok (.invokevirtual 101, 3) := by decide +kernel
theorem dX10_begin_28 : decode cX10_begin 28 = .ok (.aload_n 0, 1) := by decide +kernel
theorem dX10_begin_29 : decode cX10_begin 29 = .ok (.iload_n 1, 1) := by decide +kernel
theorem dX10_begin_30 : decode cX10_begin 30 = .ok (.aload_n 0, 1) := by decide +kernel
theorem dX10_begin_31 : decode cX10_begin 31 = .ok (.getfield 23, 3) := by decide +kernel
theorem dX10_begin_34 : decode cX10_begin 34 = .ok (.iconst 0, 1) := by decide +kernel
theorem dX10_begin_35 : decode cX10_begin 35 = .ok (.iaload, 1) := by decide +kernel
theorem dX10_begin_36 : decode cX10_begin 36 = .ok (.aload_n 0, 1) := by decide +kernel
theorem dX10_begin_37 : decode cX10_begin 37 = .ok (.getfield 23, 3) := by decide +kernel
theorem dX10_begin_40 : decode cX10_begin 40 = .ok (.iconst 1, 1) := by decide +kernel
theorem dX10_begin_41 : decode cX10_begin 41 = .ok (.iaload, 1) := by decide +kernel
theorem dX10_begin_42 : decode cX10_begin 42 = .ok (.invokevirtual 109, 3) := by decide +kernel
theorem dX10_begin_45 : decode cX10_begin 45 = .ok (.return_, 1) := by decide +kernel
theorem dX10_send_0 : decode cX10_send 0 = .ok (.iload_n 1, 1) := by decide +kernel
theorem dX10_send_1 : decode cX10_send 1 = .ok (.invokestatic 78, 3) := by decide +kernel
theorem dX10_send_4 : decode cX10_send 4 = .ok (.ifCond .ne 5, 3) := by decide +kernel
theorem dX10_send_7 : decode cX10_send 7 = .ok (.iconst (-1), 1) := by decide +kernel
theorem dX10_send_8 : decode cX10_send 8 = .ok (.ireturn, 1) := by decide +kernel
theorem dX10_send_9 : decode cX10_send 9 = .ok (.aload_n 0, 1) := by decide +kernel
theorem dX10_send_10 : decode cX10_send 10 = .ok (.invokevirtual 74, 3) := by decide +kernel
theorem dX10_send_13 : decode cX10_send 13 = .ok (.ifCond .lt 6, 3) := by decide +kernel
theorem dX10_send_16 : decode cX10_send 16 = .ok (.bipush (-7), 2) := by decide +kernel
theorem dX10_send_18 : decode cX10_send 18 = .ok (.ireturn, 1) := by decide +kernel
theorem dX10_send_19 : decode cX10_send 19 = .ok (.aload_n 0, 1) := by decide +kernel
theorem dX10_send_20 : decode cX10_send 20 = .ok (.iload_n 1, 1) := by decide +kernel
theorem dX10_send_21 : decode cX10_send 21 = .ok (.aload_n 0, 1) := by decide +kernel
theorem dX10_send_22 : decode cX10_send 22 = .ok (.getfield 7, 3) := by decide +kernel
theorem dX10_send_25 : decode cX10_send 25 = .ok (.sipush 1386, 3) := by decide +kernel
theorem dX10_send_28 : decode cX10_send 28 = .ok (.iaload, 1) := by decide +kernel
theorem dX10_send_29 : decode cX10_send 29 = .ok (.invokevirtual 113, 3) := by decide +kernel
theorem dX10_send_32 : decode cX10_send 32 = .ok (.ifCond .ne 6, 3) := by decide +kernel
theorem dX10_send_35 : decode cX10_send 35 = .ok (.bipush (-4), 2) := by decide +kernel
theorem dX10_send_37 : decode cX10_send 37 = .ok (.ireturn, 1) := by decide +kernel
theorem dX10_send_38 : decode cX10_send 38 = .ok (.aload_n 0, 1) := by decide +kernel
theorem dX10_send_39 : decode cX10_send 39 = .ok (.iload_n 1, 1) := by decide +kernel
theorem dX10_send_40 : decode cX10_send 40 = .ok (.invokevirtual 116, 3) := by decide +kernel
theorem dX10_send_43 : decode cX10_send 43 = .ok (.aload_n 0, 1) := by decide +kernel
theorem dX10_send_44 : decode cX10_send 44 = .ok (.iconst 0, 1) := by decide +kernel
theorem dX10_send_45 : decode cX10_send 45 = .ok (.putfield 45, 3) := by decide +kernel
theorem dX10_send_48 : decode cX10_send 48 = .ok (.aload_n 0, 1) := by decide +kernel
theorem dX10_send_49 : decode cX10_send 49 = .ok (.getfield 7, 3) := by decide +kernel
theorem dX10_send_52 : decode cX10_send 52 = .ok (.sipush 150, 3) := by decide +kernel
theorem dX10_send_55 : decode cX10_send 55 = .ok (.iload_n 1, 1) := by decide +kernel
theorem dX10_send_56 : decode cX10_send 56 = .ok (.iadd, 1) := by decide +kernel
theorem dX10_send_57 : decode cX10_send 57 = .ok (.iaload, 1) := by decide +kernel
theorem dX10_send_58 : decode cX10_send 58 = .ok (.ireturn, 1) := by decide +kernel
theorem dX10_count_0 : decode cX10_count 0 = .ok (.aload_n 0, 1) := by decide +kernel
theorem dX10_count_1 : decode cX10_count 1 = .ok (.getfield 7, 3) := by decide +kernel
theorem dX10_count_4 : decode cX10_count 4 = .ok (.bipush 96, 2) := by decide +kernel
theorem dX10_count_6 : decode cX10_count 6 = .ok (.bipush 6, 2) := by decide +kernel
theorem dX10_count_8 : decode cX10_count 8 = .ok (.iload_n 1, 1) := by decide +kernel
theorem dX10_count_9 : decode cX10_count 9 = .ok (.imul, 1) := by decide +kernel
theorem dX10_count_10 : decode cX10_count 10 = .ok (.iadd, 1) := by decide +kernel
theorem dX10_count_11 : decode cX10_count 11 = .ok (.iload_n 2, 1) := by decide +kernel
theorem dX10_count_12 : decode cX10_count 12 = .ok (.iadd, 1) := by decide +kernel
theorem dX10_count_13 : decode cX10_count 13 = .ok (.dup2, 1) := by decide +kernel
theorem dX10_count_14 : decode cX10_count 14 = .ok (.iaload, 1) := by decide +kernel
theorem dX10_count_15 : decode cX10_count 15 = .ok (.iconst 1, 1) := by decide +kernel
theorem dX10_count_16 : decode cX10_count 16 = .ok (.iadd, 1) := by decide +kernel
theorem dX10_count_17 : decode cX10_count 17 = .ok (.iastore, 1) := by decide +kernel
theorem dX10_count_18 : decode cX10_count 18 = .ok (.return_, 1) := by decide +kernel
theorem dX10_sendOne_0 : decode cX10_sendOne 0 = .ok (.iconst 0, 1) := by decide +kernel
theorem dX10_sendOne_1 : decode cX10_sendOne 1 = .ok (.istore_n 2, 1) := by decide +kernel
theorem dX10_sendOne_2 : decode cX10_sendOne 2 = .ok (.iload_n 2, 1) := by decide +kernel
theorem dX10_sendOne_3 : decode cX10_sendOne 3 = .ok (.aload_n 0, 1) := by decide +kernel
theorem dX10_sendOne_4 : decode cX10_sendOne 4 = .ok (.getfield 7, 3) := by decide +kernel
theorem dX10_sendOne_7 : decode cX10_sendOne 7 = .ok (.sipush 150, 3) := by decide +kernel
theorem dX10_sendOne_10 : decode cX10_sendOne 10 = .ok (.iload_n 1, 1) := by decide +kernel
theorem dX10_sendOne_11 : decode cX10_sendOne 11 = .ok (.iadd, 1) := by decide +kernel
theorem dX10_sendOne_12 : decode cX10_sendOne 12 = .ok (.iaload, 1) := by decide +kernel
theorem dX10_sendOne_13 : decode cX10_sendOne 13 = .ok (.if_icmp .ge 33, 3) := by decide +kernel
theorem dX10_sendOne_16 : decode cX10_sendOne 16 = .ok (.aload_n 0, 1) := by decide +kernel
theorem dX10_sendOne_17 : decode cX10_sendOne 17 = .ok (.getfield 7, 3) := by decide +kernel
theorem dX10_sendOne_20 : decode cX10_sendOne 20 = .ok (.iload_n 1, 1) := by decide +kernel
theorem dX10_sendOne_21 : decode cX10_sendOne 21 = .ok (.iload_n 2, 1) := by decide +kernel
theorem dX10_sendOne_22 : decode cX10_sendOne 22 = .ok (.invokestatic 95, 3) := by decide +kernel
theorem dX10_sendOne_25 : decode cX10_sendOne 25 = .ok (.bipush 11, 2) := by decide +kernel
theorem dX10_sendOne_27 : decode cX10_sendOne 27 = .ok (.iadd, 1) := by decide +kernel
theorem dX10_sendOne_28 : decode cX10_sendOne 28 = .ok (.iaload, 1) := by decide +kernel
theorem dX10_sendOne_29 : decode cX10_sendOne 29 = .ok (.aload_n 0, 1) := by decide +kernel
theorem dX10_sendOne_30 : decode cX10_sendOne 30 = .ok (.getfield 7, 3) := by decide +kernel
theorem dX10_sendOne_33 : decode cX10_sendOne 33 = .ok (.sipush 1386, 3) := by decide +kernel
theorem dX10_sendOne_36 : decode cX10_sendOne 36 = .ok (.iaload, 1) := by decide +kernel
theorem dX10_sendOne_37 : decode cX10_sendOne 37 = .ok (.if_icmp .le 9, 3) := by decide +kernel
theorem dX10_sendOne_40 : decode cX10_sendOne 40 = .ok (.iinc 2 1, 3) := by decide +kernel
theorem dX10_sendOne_43 : decode cX10_sendOne 43 = .ok (.goto (-41), 3) := by decide +kernel
theorem dX10_sendOne_46 : decode cX10_sendOne 46 = .ok (.aload_n 0, 1) := by decide +kernel
theorem dX10_sendOne_47 : decode cX10_sendOne 47 = .ok (.getfield 29, 3) := by decide +kernel
theorem dX10_sendOne_50 : decode cX10_sendOne 50 = .ok (.iload_n 1, 1) := by decide +kernel
theorem dX10_sendOne_51 : decode cX10_sendOne 51 = .ok (.iload_n 2, 1) := by decide +kernel
theorem dX10_sendOne_52 : decode cX10_sendOne 52 = .ok (.aload_n 0, 1) := by decide +kernel
theorem dX10_sendOne_53 : decode cX10_sendOne 53 = .ok (.getfield 7, 3) := by decide +kernel
theorem dX10_sendOne_56 : decode cX10_sendOne 56 = .ok (.sipush 150, 3) := by decide +kernel
theorem dX10_sendOne_59 : decode cX10_sendOne 59 = .ok (.iload_n 1, 1) := by decide +kernel
theorem dX10_sendOne_60 : decode cX10_sendOne 60 = .ok (.iadd, 1) := by decide +kernel
theorem dX10_sendOne_61 : decode cX10_sendOne 61 = .ok (.iaload, 1) := by decide +kernel
theorem dX10_sendOne_62 : decode cX10_sendOne 62 = .ok (.if_icmp .ge 7, 3) := by decide +kernel
theorem dX10_sendOne_65 : decode cX10_sendOne 65 = .ok (.iconst 1, 1) := by decide +kernel
theorem dX10_sendOne_66 : decode cX10_sendOne 66 = .ok (.goto 4, 3) := by decide +kernel
theorem dX10_sendOne_69 : decode cX10_sendOne 69 = .ok (.iconst 0, 1) := by decide +kernel
theorem dX10_sendOne_70 : decode cX10_sendOne 70 = .ok (.bastore, 1) := by decide +kernel
theorem dX10_sendOne_71 : decode cX10_sendOne 71 = .ok (.aload_n 0, 1) := by decide +kernel
theorem dX10_sendOne_72 : decode cX10_sendOne 72 = .ok (.getfield 29, 3) := by decide +kernel
theorem dX10_sendOne_75 : decode cX10_sendOne 75 = .ok (.iload_n 1, 1) := by decide +kernel
theorem dX10_sendOne_76 : decode cX10_sendOne 76 = .ok (.baload, 1) := by decide +kernel
theorem dX10_sendOne_77 : decode cX10_sendOne 77 = .ok (.ifCond .eq 126, 3) := by decide +kernel
theorem dX10_sendOne_80 : decode cX10_sendOne 80 = .ok (.iconst 0, 1) := by decide +kernel
theorem dX10_sendOne_81 : decode cX10_sendOne 81 = .ok (.istore_n 3, 1) := by decide +kernel
theorem dX10_sendOne_82 : decode cX10_sendOne 82 = .ok (.iload_n 3, 1) := by decide +kernel
theorem dX10_sendOne_83 : decode cX10_sendOne 83 = .ok (.bipush 11, 2) := by decide +kernel
theorem dX10_sendOne_85 : decode cX10_sendOne 85 = .ok (.if_icmp .ge 32, 3) := by decide +kernel
theorem dX10_sendOne_88 : decode cX10_sendOne 88 = .ok (.aload_n 0, 1) := by decide +kernel
theorem dX10_sendOne_89 : decode cX10_sendOne 89 = .ok (.getfield 26, 3) := by decide +kernel
theorem dX10_sendOne_92 : decode cX10_sendOne 92 = .ok (.bipush 11, 2) := by decide +kernel
theorem dX10_sendOne_94 : decode cX10_sendOne 94 = .ok (.iload_n 1, 1) := by decide +kernel
theorem dX10_sendOne_95 : decode cX10_sendOne 95 = .ok (.imul, 1) := by decide +kernel
theorem dX10_sendOne_96 : decode cX10_sendOne 96 = .ok (.iload_n 3, 1) := by decide +kernel
theorem dX10_sendOne_97 : decode cX10_sendOne 97 = .ok (.iadd, 1) := by decide +kernel
theorem dX10_sendOne_98 : decode cX10_sendOne 98 = .ok (.aload_n 0, 1) := by decide +kernel
theorem dX10_sendOne_99 : decode cX10_sendOne 99 = .ok (.getfield 7, 3) := by decide +kernel
theorem dX10_sendOne_102 : decode cX10_sendOne 102 = .ok (.iload_n 1, 1) := by decide +kernel
theorem dX10_sendOne_103 : decode cX10_sendOne 103 = .ok (.iload_n 2, 1) := by decide +kernel
theorem dX10_sendOne_104 : decode cX10_sendOne 104 = .ok (.invokestatic 95, 3) := by decide +kernel
theorem dX10_sendOne_107 : decode cX10_sendOne 107 = .ok (.iload_n 3, 1) := by decide +kernel
theorem dX10_sendOne_108 : decode cX10_sendOne 108 = .ok (.iadd, 1) := by decide +kernel
theorem dX10_sendOne_109 : decode cX10_sendOne 109 = .ok (.iaload, 1) := by decide +kernel
theorem dX10_sendOne_110 : decode cX10_sendOne 110 = .ok (.iastore, 1) := by decide +kernel
theorem dX10_sendOne_111 : decode cX10_sendOne 111 = .ok (.iinc 3 1, 3) := by decide +kernel
theorem dX10_sendOne_114 : decode cX10_sendOne 114 = .ok (.goto (-32), 3) := by decide +kernel
theorem dX10_sendOne_117 : decode cX10_sendOne 117 = .ok (.aload_n 0, 1) := by decide +kernel
theorem dX10_sendOne_118 : decode cX10_sendOne 118 = .ok (.getfield 7, 3) := by decide +kernel
theorem dX10_sendOne_121 : decode cX10_sendOne 121 = .ok (.sipush 150, 3) := by decide +kernel
theorem dX10_sendOne_124 : decode cX10_sendOne 124 = .ok (.iload_n 1, 1) := by decide +kernel
theorem dX10_sendOne_125 : decode cX10_sendOne 125 = .ok (.iadd, 1) := by decide +kernel
theorem dX10_sendOne_126 : decode cX10_sendOne 126 = .ok (.dup2, 1) := by decide +kernel
theorem dX10_sendOne_127 : decode cX10_sendOne 127 = .ok (.iaload, 1) := by decide +kernel
theorem dX10_sendOne_128 : decode cX10_sendOne 128 = .ok (.iconst 1, 1) := by decide +kernel
theorem dX10_sendOne_129 : decode cX10_sendOne 129 = .ok (.isub, 1) := by decide +kernel
theorem dX10_sendOne_130 : decode cX10_sendOne 130 = .ok (.iastore, 1) := by decide +kernel
theorem dX10_sendOne_131 : decode cX10_sendOne 131 = .ok (.iload_n 2, 1) := by decide +kernel
theorem dX10_sendOne_132 : decode cX10_sendOne 132 = .ok (.istore_n 3, 1) := by decide +kernel
theorem dX10_sendOne_133 : decode cX10_sendOne 133 = .ok (.iload_n 3, 1) := by decide +kernel
theorem dX10_sendOne_134 : decode cX10_sendOne 134 = .ok (.aload_n 0, 1) := by decide +kernel
theorem dX10_sendOne_135 : decode cX10_sendOne 135 = .ok (.getfield 7, 3) := by decide +kernel
theorem dX10_sendOne_138 : decode cX10_sendOne 138 = .ok (.sipush 150, 3) := by decide +kernel
theorem dX10_sendOne_141 : decode cX10_sendOne 141 = .ok (.iload_n 1, 1) := by decide +kernel
theorem dX10_sendOne_142 : decode cX10_sendOne 142 = .ok (.iadd, 1) := by decide +kernel
theorem dX10_sendOne_143 : decode cX10_sendOne 143 = .ok (.iaload, 1) := by decide +kernel
theorem dX10_sendOne_144 : decode cX10_sendOne 144 = .ok (.if_icmp .ge 53, 3) := by decide +kernel
theorem dX10_sendOne_147 : decode cX10_sendOne 147 = .ok (.iconst 0, 1) := by decide +kernel
theorem dX10_sendOne_148 : decode cX10_sendOne 148 = .ok (.istore 4, 2) := by decide +kernel
theorem dX10_sendOne_150 : decode cX10_sendOne 150 = .ok (.iload 4, 2) := by decide +kernel
theorem dX10_sendOne_152 : decode cX10_sendOne 152 = .ok (.bipush 12, 2) := by decide +kernel
theorem dX10_sendOne_154 : decode cX10_sendOne 154 = .ok (.if_icmp .ge 37, 3) := by decide +kernel
theorem dX10_sendOne_157 : decode cX10_sendOne 157 = .ok (.aload_n 0, 1) := by decide +kernel
theorem dX10_sendOne_158 : decode cX10_sendOne 158 = .ok (.getfield 7, 3) := by decide +kernel
theorem dX10_sendOne_161 : decode cX10_sendOne 161 = .ok (.iload_n 1, 1) := by decide +kernel
theorem dX10_sendOne_162 : decode cX10_sendOne 162 = .ok (.iload_n 3, 1) := by decide +kernel
theorem dX10_sendOne_163 : decode cX10_sendOne 163 = .ok (.invokestatic 95, 3) := by decide +kernel
theorem dX10_sendOne_166 : decode cX10_sendOne 166 = .ok (.iload 4, 2) := by decide +kernel
theorem dX10_sendOne_168 : decode cX10_sendOne 168 = .ok (.iadd, 1) := by decide +kernel
theorem dX10_sendOne_169 : decode cX10_sendOne 169 = .ok (.aload_n 0, 1) := by decide +kernel
theorem dX10_sendOne_170 : decode cX10_sendOne 170 = .ok (.getfield 7, 3) := by decide +kernel
theorem dX10_sendOne_173 : decode cX10_sendOne 173 = .ok (.iload_n 1, 1) := by decide +kernel
theorem dX10_sendOne_174 : decode cX10_sendOne 174 = .ok (.iload_n 3, 1) := by decide +kernel
theorem dX10_sendOne_175 : decode cX10_sendOne 175 = .ok (.iconst 1, 1) := by decide +kernel
theorem dX10_sendOne_176 : decode cX10_sendOne 176 = .ok (.iadd, 1) := by decide +kernel
theorem dX10_sendOne_177 : decode cX10_sendOne 177 = .ok (.invokestatic 95, 3) := by decide +kernel
theorem dX10_sendOne_180 : decode cX10_sendOne 180 = .ok (.iload 4, 2) := by decide +kernel
theorem dX10_sendOne_182 : decode cX10_sendOne 182 = .ok (.iadd, 1) := by decide +kernel
theorem dX10_sendOne_183 : decode cX10_sendOne 183 = .ok (.iaload, 1) := by decide +kernel
theorem dX10_sendOne_184 : decode cX10_sendOne 184 = .ok (.iastore, 1) := by decide +kernel
theorem dX10_sendOne_185 : decode cX10_sendOne 185 = .ok (.iinc 4 1, 3) := by decide +kernel
theorem dX10_sendOne_188 : decode cX10_sendOne 188 = .ok (.goto (-38), 3) := by decide +kernel
theorem dX10_sendOne_191 : decode cX10_sendOne 191 = .ok (.iinc 3 1, 3) := by decide +kernel
theorem dX10_sendOne_194 : decode cX10_sendOne 194 = .ok (.goto (-61), 3) := by decide +kernel
theorem dX10_sendOne_197 : decode cX10_sendOne 197 = .ok (.aload_n 0, 1) := by decide +kernel
theorem dX10_sendOne_198 : decode cX10_sendOne 198 = .ok (.iconst 0, 1) := by decide +kernel
theorem dX10_sendOne_199 : decode cX10_sendOne 199 = .ok (.iload_n 1, 1) := by decide +kernel
theorem dX10_sendOne_200 : decode cX10_sendOne 200 = .ok (.invokevirtual 119, 3) := by decide +kernel
theorem dX10_sendOne_203 : decode cX10_sendOne 203 = .ok (.return_, 1) := by decide +kernel
theorem dX10_hearsFrom_0 : decode cX10_hearsFrom 0 = .ok (.iconst 0, 1) := by decide +kernel
theorem dX10_hearsFrom_1 : decode cX10_hearsFrom 1 = .ok (.istore_n 2, 1) := by decide +kernel
theorem dX10_hearsFrom_2 : decode cX10_hearsFrom 2 = .ok (.bipush (-6), 2) := by decide +kernel
theorem dX10_hearsFrom_4 : decode cX10_hearsFrom 4 = .ok (.istore_n 3, 1) := by decide +kernel
theorem dX10_hearsFrom_5 : decode cX10_hearsFrom 5 = .ok (.iconst 0, 1) := by decide +kernel
theorem dX10_hearsFrom_6 : decode cX10_hearsFrom 6 = .ok (.istore 4, 2) := by decide +kernel
theorem dX10_hearsFrom_8 : decode cX10_hearsFrom 8 = .ok (.iload 4, 2) := by decide +kernel
theorem dX10_hearsFrom_10 : decode cX10_hearsFrom 10 = .ok (.bipush 6, 2) := by decide +kernel
theorem dX10_hearsFrom_12 : decode cX10_hearsFrom 12 = .ok (.if_icmp .ge 35, 3) := by decide +kernel
theorem dX10_hearsFrom_15 : decode cX10_hearsFrom 15 = .ok (.aload_n 0, 1) := by decide +kernel
theorem dX10_hearsFrom_16 : decode cX10_hearsFrom 16 = .ok (.getfield 29, 3) := by decide +kernel
theorem dX10_hearsFrom_19 : decode cX10_hearsFrom 19 = .ok (.iload 4, 2) := by decide +kernel
theorem dX10_hearsFrom_21 : decode cX10_hearsFrom 21 = .ok (.baload, 1) := by decide +kernel
theorem dX10_hearsFrom_22 : decode cX10_hearsFrom 22 = .ok (.ifCond .eq 19, 3) := by decide +kernel
theorem dX10_hearsFrom_25 : decode cX10_hearsFrom 25 = .ok (.aload_n 0, 1) := by decide +kernel
theorem dX10_hearsFrom_26 : decode cX10_hearsFrom 26 = .ok (.iload_n 1, 1) := by decide +kernel
theorem dX10_hearsFrom_27 : decode cX10_hearsFrom 27 = .ok (.iload 4, 2) := by decide +kernel
theorem dX10_hearsFrom_29 : decode cX10_hearsFrom 29 = .ok (.invokevirtual 91, 3) := by decide +kernel
theorem dX10_hearsFrom_32 : decode cX10_hearsFrom 32 = .ok (.ifCond .eq 9, 3) := by decide +kernel
theorem dX10_hearsFrom_35 : decode cX10_hearsFrom 35 = .ok (.iload 4, 2) := by decide +kernel
theorem dX10_hearsFrom_37 : decode cX10_hearsFrom 37 = .ok (.istore_n 3, 1) := by decide +kernel
theorem dX10_hearsFrom_38 : decode cX10_hearsFrom 38 = .ok (.iinc 2 1, 3) := by decide +kernel
theorem dX10_hearsFrom_41 : decode cX10_hearsFrom 41 = .ok (.iinc 4 1, 3) := by decide +kernel
theorem dX10_hearsFrom_44 : decode cX10_hearsFrom 44 = .ok (.goto (-36), 3) := by decide +kernel
theorem dX10_hearsFrom_47 : decode cX10_hearsFrom 47 = .ok (.iload_n 2, 1) := by decide +kernel
theorem dX10_hearsFrom_48 : decode cX10_hearsFrom 48 = .ok (.iconst 1, 1) := by decide +kernel
theorem dX10_hearsFrom_49 : decode cX10_hearsFrom 49 = .ok (.if_icmp .le 10, 3) := by decide +kernel
theorem dX10_hearsFrom_52 : decode cX10_hearsFrom 52 = .ok (.aload_n 0, 1) := by decide +kernel
theorem dX10_hearsFrom_53 : decode cX10_hearsFrom 53 = .ok (.bipush 7, 2) := by decide +kernel
theorem dX10_hearsFrom_55 : decode cX10_hearsFrom 55 = .ok (.iload_n 1, 1) := by decide +kernel
theorem dX10_hearsFrom_56 : decode cX10_hearsFrom 56 = .ok (.invokevirtual 119, 3) := by decide +kernel
theorem dX10_hearsFrom_59 : decode cX10_hearsFrom 59 = .ok (.iload_n 2, 1) := by decide +kernel
theorem dX10_hearsFrom_60 : decode cX10_hearsFrom 60 = .ok (.iconst 1, 1) := by decide +kernel
theorem dX10_hearsFrom_61 : decode cX10_hearsFrom 61 = .ok (.if_icmp .ne 7, 3) := by decide +kernel
theorem dX10_hearsFrom_64 : decode cX10_hearsFrom 64 = .ok (.iload_n 3, 1) := by decide +kernel
theorem dX10_hearsFrom_65 : decode cX10_hearsFrom 65 = .ok (.goto 5, 3) := by decide +kernel
theorem dX10_hearsFrom_68 : decode cX10_hearsFrom 68 = .ok (.bipush (-6), 2) := by decide +kernel
theorem dX10_hearsFrom_70 : decode cX10_hearsFrom 70 = .ok (.ireturn, 1) := by decide +kernel
theorem dX10_tick_0 : decode cX10_tick 0 = .ok (.iconst 0, 1) := by decide +kernel
theorem dX10_tick_1 : decode cX10_tick 1 = .ok (.istore_n 1, 1) := by decide +kernel
theorem dX10_tick_2 : decode cX10_tick 2 = .ok (.iload_n 1, 1) := by decide +kernel
theorem dX10_tick_3 : decode cX10_tick 3 = .ok (.bipush 6, 2) := by decide +kernel
theorem dX10_tick_5 : decode cX10_tick 5 = .ok (.if_icmp .ge 14, 3) := by decide +kernel
theorem dX10_tick_8 : decode cX10_tick 8 = .ok (.aload_n 0, 1) := by decide +kernel
theorem dX10_tick_9 : decode cX10_tick 9 = .ok (.iload_n 1, 1) := by decide +kernel
theorem dX10_tick_10 : decode cX10_tick 10 = .ok (.invokevirtual 122, 3) := by decide +kernel
theorem dX10_tick_13 : decode cX10_tick 13 = .ok (.iinc 1 1, 3) := by decide +kernel
theorem dX10_tick_16 : decode cX10_tick 16 = .ok (.goto (-14), 3) := by decide +kernel
theorem dX10_tick_19 : decode cX10_tick 19 = .ok (.iconst 0, 1) := by decide +kernel
theorem dX10_tick_20 : decode cX10_tick 20 = .ok (.istore_n 1, 1) := by decide +kernel
theorem dX10_tick_21 : decode cX10_tick 21 = .ok (.iload_n 1, 1) := by decide +kernel
theorem dX10_tick_22 : decode cX10_tick 22 = .ok (.bipush 6, 2) := by decide +kernel
theorem dX10_tick_24 : decode cX10_tick 24 = .ok (.if_icmp .ge 34, 3) := by decide +kernel
theorem dX10_tick_27 : decode cX10_tick 27 = .ok (.aload_n 0, 1) := by decide +kernel
theorem dX10_tick_28 : decode cX10_tick 28 = .ok (.getfield 32, 3) := by decide +kernel
theorem dX10_tick_31 : decode cX10_tick 31 = .ok (.iload_n 1, 1) := by decide +kernel
theorem dX10_tick_32 : decode cX10_tick 32 = .ok (.aload_n 0, 1) := by decide +kernel
theorem dX10_tick_33 : decode cX10_tick 33 = .ok (.getfield 29, 3) := by decide +kernel
theorem dX10_tick_36 : decode cX10_tick 36 = .ok (.iload_n 1, 1) := by decide +kernel
theorem dX10_tick_37 : decode cX10_tick 37 = .ok (.baload, 1) := by decide +kernel
theorem dX10_tick_38 : decode cX10_tick 38 = .ok (.ifCond .eq 8, 3) := by decide +kernel
theorem dX10_tick_41 : decode cX10_tick 41 = .ok (.bipush (-6), 2) := by decide +kernel
theorem dX10_tick_43 : decode cX10_tick 43 = .ok (.goto 8, 3) := by decide +kernel
theorem dX10_tick_46 : decode cX10_tick 46 = .ok (.aload_n 0, 1) := by decide +kernel
theorem dX10_tick_47 : decode cX10_tick 47 = .ok (.iload_n 1, 1) := by decide +kernel
theorem dX10_tick_48 : decode cX10_tick 48 = .ok (.invokevirtual 125, 3) := by decide +kernel
theorem dX10_tick_51 : decode cX10_tick 51 = .ok (.iastore, 1) := by decide +kernel
theorem dX10_tick_52 : decode cX10_tick 52 = .ok (.iinc 1 1, 3) := by decide +kernel
theorem dX10_tick_55 : decode cX10_tick 55 = .ok (.goto (-34), 3) := by decide +kernel
theorem dX10_tick_58 : decode cX10_tick 58 = .ok (.iconst 0, 1) := by decide +kernel
theorem dX10_tick_59 : decode cX10_tick 59 = .ok (.istore_n 1, 1) := by decide +kernel
theorem dX10_tick_60 : decode cX10_tick 60 = .ok (.iload_n 1, 1) := by decide +kernel
theorem dX10_tick_61 : decode cX10_tick 61 = .ok (.bipush 6, 2) := by decide +kernel
theorem dX10_tick_63 : decode cX10_tick 63 = .ok (.if_icmp .ge 29, 3) := by decide +kernel
theorem dX10_tick_66 : decode cX10_tick 66 = .ok (.aload_n 0, 1) := by decide +kernel
theorem dX10_tick_67 : decode cX10_tick 67 = .ok (.getfield 32, 3) := by decide +kernel
theorem dX10_tick_70 : decode cX10_tick 70 = .ok (.iload_n 1, 1) := by decide +kernel
theorem dX10_tick_71 : decode cX10_tick 71 = .ok (.iaload, 1) := by decide +kernel
theorem dX10_tick_72 : decode cX10_tick 72 = .ok (.ifCond .lt 14, 3) := by decide +kernel
theorem dX10_tick_75 : decode cX10_tick 75 = .ok (.aload_n 0, 1) := by decide +kernel
theorem dX10_tick_76 : decode cX10_tick 76 = .ok (.iload_n 1, 1) := by decide +kernel
theorem dX10_tick_77 : decode cX10_tick 77 = .ok (.aload_n 0, 1) := by decide +kernel
theorem dX10_tick_78 : decode cX10_tick 78 = .ok (.getfield 32, 3) := by decide +kernel
theorem dX10_tick_81 : decode cX10_tick 81 = .ok (.iload_n 1, 1) := by decide +kernel
theorem dX10_tick_82 : decode cX10_tick 82 = .ok (.iaload, 1) := by decide +kernel
theorem dX10_tick_83 : decode cX10_tick 83 = .ok (.invokevirtual 129, 3) := by decide +kernel
theorem dX10_tick_86 : decode cX10_tick 86 = .ok (.iinc 1 1, 3) := by decide +kernel
theorem dX10_tick_89 : decode cX10_tick 89 = .ok (.goto (-29), 3) := by decide +kernel
theorem dX10_tick_92 : decode cX10_tick 92 = .ok (.aload_n 0, 1) := by decide +kernel
theorem dX10_tick_93 : decode cX10_tick 93 = .ok (.getfield 7, 3) := by decide +kernel
theorem dX10_tick_96 : decode cX10_tick 96 = .ok (.sipush 1386, 3) := by decide +kernel
theorem dX10_tick_99 : decode cX10_tick 99 = .ok (.dup2, 1) := by decide +kernel
theorem dX10_tick_100 : decode cX10_tick 100 = .ok (.iaload, 1) := by decide +kernel
theorem dX10_tick_101 : decode cX10_tick 101 = .ok (.iconst 1, 1) := by decide +kernel
theorem dX10_tick_102 : decode cX10_tick 102 = .ok (.iadd, 1) := by decide +kernel
theorem dX10_tick_103 : decode cX10_tick 103 = .ok (.iastore, 1) := by decide +kernel
theorem dX10_tick_104 : decode cX10_tick 104 = .ok (.return_, 1) := by decide +kernel
theorem dX10_hear_0 : decode cX10_hear 0 = .ok (.aload_n 0, 1) := by decide +kernel
theorem dX10_hear_1 : decode cX10_hear 1 = .ok (.iconst 1, 1) := by decide +kernel
theorem dX10_hear_2 : decode cX10_hear 2 = .ok (.iload_n 1, 1) := by decide +kernel
theorem dX10_hear_3 : decode cX10_hear 3 = .ok (.invokevirtual 119, 3) := by decide +kernel
theorem dX10_hear_6 : decode cX10_hear 6 = .ok (.iconst 0, 1) := by decide +kernel
theorem dX10_hear_7 : decode cX10_hear 7 = .ok (.istore_n 3, 1) := by decide +kernel
theorem dX10_hear_8 : decode cX10_hear 8 = .ok (.iload_n 3, 1) := by decide +kernel
theorem dX10_hear_9 : decode cX10_hear 9 = .ok (.bipush 11, 2) := by decide +kernel
theorem dX10_hear_11 : decode cX10_hear 11 = .ok (.if_icmp .ge 47, 3) := by decide +kernel
theorem dX10_hear_14 : decode cX10_hear 14 = .ok (.aload_n 0, 1) := by decide +kernel
theorem dX10_hear_15 : decode cX10_hear 15 = .ok (.getfield 23, 3) := by decide +kernel
theorem dX10_hear_18 : decode cX10_hear 18 = .ok (.iload_n 3, 1) := by decide +kernel
theorem dX10_hear_19 : decode cX10_hear 19 = .ok (.aload_n 0, 1) := by decide +kernel
theorem dX10_hear_20 : decode cX10_hear 20 = .ok (.getfield 26, 3) := by decide +kernel
theorem dX10_hear_23 : decode cX10_hear 23 = .ok (.bipush 11, 2) := by decide +kernel
theorem dX10_hear_25 : decode cX10_hear 25 = .ok (.iload_n 2, 1) := by decide +kernel
theorem dX10_hear_26 : decode cX10_hear 26 = .ok (.imul, 1) := by decide +kernel
theorem dX10_hear_27 : decode cX10_hear 27 = .ok (.iload_n 3, 1) := by decide +kernel
theorem dX10_hear_28 : decode cX10_hear 28 = .ok (.iadd, 1) := by decide +kernel
theorem dX10_hear_29 : decode cX10_hear 29 = .ok (.iaload, 1) := by decide +kernel
theorem dX10_hear_30 : decode cX10_hear 30 = .ok (.iastore, 1) := by decide +kernel
theorem dX10_hear_31 : decode cX10_hear 31 = .ok (.aload_n 0, 1) := by decide +kernel
theorem dX10_hear_32 : decode cX10_hear 32 = .ok (.getfield 7, 3) := by decide +kernel
theorem dX10_hear_35 : decode cX10_hear 35 = .ok (.sipush 1314, 3) := by decide +kernel
theorem dX10_hear_38 : decode cX10_hear 38 = .ok (.bipush 11, 2) := by decide +kernel
theorem dX10_hear_40 : decode cX10_hear 40 = .ok (.iload_n 1, 1) := by decide +kernel
theorem dX10_hear_41 : decode cX10_hear 41 = .ok (.imul, 1) := by decide +kernel
theorem dX10_hear_42 : decode cX10_hear 42 = .ok (.iadd, 1) := by decide +kernel
theorem dX10_hear_43 : decode cX10_hear 43 = .ok (.iload_n 3, 1) := by decide +kernel
theorem dX10_hear_44 : decode cX10_hear 44 = .ok (.iadd, 1) := by decide +kernel
theorem dX10_hear_45 : decode cX10_hear 45 = .ok (.aload_n 0, 1) := by decide +kernel
theorem dX10_hear_46 : decode cX10_hear 46 = .ok (.getfield 23, 3) := by decide +kernel
theorem dX10_hear_49 : decode cX10_hear 49 = .ok (.iload_n 3, 1) := by decide +kernel
theorem dX10_hear_50 : decode cX10_hear 50 = .ok (.iaload, 1) := by decide +kernel
theorem dX10_hear_51 : decode cX10_hear 51 = .ok (.iastore, 1) := by decide +kernel
theorem dX10_hear_52 : decode cX10_hear 52 = .ok (.iinc 3 1, 3) := by decide +kernel
theorem dX10_hear_55 : decode cX10_hear 55 = .ok (.goto (-47), 3) := by decide +kernel
theorem dX10_hear_58 : decode cX10_hear 58 = .ok (.aload_n 0, 1) := by decide +kernel
theorem dX10_hear_59 : decode cX10_hear 59 = .ok (.getfield 7, 3) := by decide +kernel
theorem dX10_hear_62 : decode cX10_hear 62 = .ok (.sipush 1380, 3) := by decide +kernel
theorem dX10_hear_65 : decode cX10_hear 65 = .ok (.iload_n 1, 1) := by decide +kernel
theorem dX10_hear_66 : decode cX10_hear 66 = .ok (.iadd, 1) := by decide +kernel
theorem dX10_hear_67 : decode cX10_hear 67 = .ok (.aload_n 0, 1) := by decide +kernel
theorem dX10_hear_68 : decode cX10_hear 68 = .ok (.getfield 7, 3) := by decide +kernel
theorem dX10_hear_71 : decode cX10_hear 71 = .ok (.sipush 1386, 3) := by decide +kernel
theorem dX10_hear_74 : decode cX10_hear 74 = .ok (.iaload, 1) := by decide +kernel
theorem dX10_hear_75 : decode cX10_hear 75 = .ok (.iastore, 1) := by decide +kernel
theorem dX10_hear_76 : decode cX10_hear 76 = .ok (.aload_n 0, 1) := by decide +kernel
theorem dX10_hear_77 : decode cX10_hear 77 = .ok (.getfield 35, 3) := by decide +kernel
theorem dX10_hear_80 : decode cX10_hear 80 = .ok (.iload_n 1, 1) := by decide +kernel
theorem dX10_hear_81 : decode cX10_hear 81 = .ok (.aload_n 0, 1) := by decide +kernel
theorem dX10_hear_82 : decode cX10_hear 82 = .ok (.getfield 35, 3) := by decide +kernel
theorem dX10_hear_85 : decode cX10_hear 85 = .ok (.iload_n 1, 1) := by decide +kernel
theorem dX10_hear_86 : decode cX10_hear 86 = .ok (.iaload, 1) := by decide +kernel
theorem dX10_hear_87 : decode cX10_hear 87 = .ok (.ifCond .ge 14, 3) := by decide +kernel
theorem dX10_hear_90 : decode cX10_hear 90 = .ok (.aload_n 0, 1) := by decide +kernel
theorem dX10_hear_91 : decode cX10_hear 91 = .ok (.getfield 7, 3) := by decide +kernel
theorem dX10_hear_94 : decode cX10_hear 94 = .ok (.sipush 1386, 3) := by decide +kernel
theorem dX10_hear_97 : decode cX10_hear 97 = .ok (.iaload, 1) := by decide +kernel
theorem dX10_hear_98 : decode cX10_hear 98 = .ok (.goto 9, 3) := by decide +kernel
theorem dX10_hear_101 : decode cX10_hear 101 = .ok (.aload_n 0, 1) := by decide +kernel
theorem dX10_hear_102 : decode cX10_hear 102 = .ok (.getfield 35, 3) := by decide +kernel
theorem dX10_hear_105 : decode cX10_hear 105 = .ok (.iload_n 1, 1) := by decide +kernel
theorem dX10_hear_106 : decode cX10_hear 106 = .ok (.iaload, 1) := by decide +kernel
theorem dX10_hear_107 : decode cX10_hear 107 = .ok (.iastore, 1) := by decide +kernel
theorem dX10_hear_108 : decode cX10_hear 108 = .ok (.aload_n 0, 1) := by decide +kernel
theorem dX10_hear_109 : decode cX10_hear 109 = .ok (.getfield 7, 3) := by decide +kernel
theorem dX10_hear_112 : decode cX10_hear 112 = .ok (.sipush 1020, 3) := by decide +kernel
theorem dX10_hear_115 : decode cX10_hear 115 = .ok (.iload_n 1, 1) := by decide +kernel
theorem dX10_hear_116 : decode cX10_hear 116 = .ok (.iadd, 1) := by decide +kernel
theorem dX10_hear_117 : decode cX10_hear 117 = .ok (.iaload, 1) := by decide +kernel
theorem dX10_hear_118 : decode cX10_hear 118 = .ok (.iconst 1, 1) := by decide +kernel
theorem dX10_hear_119 : decode cX10_hear 119 = .ok (.isub, 1) := by decide +kernel
theorem dX10_hear_120 : decode cX10_hear 120 = .ok (.istore_n 3, 1) := by decide +kernel
theorem dX10_hear_121 : decode cX10_hear 121 = .ok (.iload_n 3, 1) := by decide +kernel
theorem dX10_hear_122 : decode cX10_hear 122 = .ok (.ifCond .lt 48, 3) := by decide +kernel
theorem dX10_hear_125 : decode cX10_hear 125 = .ok (.aload_n 0, 1) := by decide +kernel
theorem dX10_hear_126 : decode cX10_hear 126 = .ok (.getfield 7, 3) := by decide +kernel
theorem dX10_hear_129 : decode cX10_hear 129 = .ok (.sipush 1386, 3) := by decide +kernel
theorem dX10_hear_132 : decode cX10_hear 132 = .ok (.iaload, 1) := by decide +kernel
theorem dX10_hear_133 : decode cX10_hear 133 = .ok (.aload_n 0, 1) := by decide +kernel
theorem dX10_hear_134 : decode cX10_hear 134 = .ok (.getfield 7, 3) := by decide +kernel
theorem dX10_hear_137 : decode cX10_hear 137 = .ok (.iload_n 1, 1) := by decide +kernel
theorem dX10_hear_138 : decode cX10_hear 138 = .ok (.iload_n 3, 1) := by decide +kernel
theorem dX10_hear_139 : decode cX10_hear 139 = .ok (.invokestatic 98, 3) := by decide +kernel
theorem dX10_hear_142 : decode cX10_hear 142 = .ok (.iconst 2, 1) := by decide +kernel
theorem dX10_hear_143 : decode cX10_hear 143 = .ok (.iadd, 1) := by decide +kernel
theorem dX10_hear_144 : decode cX10_hear 144 = .ok (.iaload, 1) := by decide +kernel
theorem dX10_hear_145 : decode cX10_hear 145 = .ok (.isub, 1) := by decide +kernel
theorem dX10_hear_146 : decode cX10_hear 146 = .ok (.aload_n 0, 1) := by decide +kernel
theorem dX10_hear_147 : decode cX10_hear 147 = .ok (.getfield 7, 3) := by decide +kernel
theorem dX10_hear_150 : decode cX10_hear 150 = .ok (.bipush 54, 2) := by decide +kernel
theorem dX10_hear_152 : decode cX10_hear 152 = .ok (.iload_n 1, 1) := by decide +kernel
theorem dX10_hear_153 : decode cX10_hear 153 = .ok (.iadd, 1) := by decide +kernel
theorem dX10_hear_154 : decode cX10_hear 154 = .ok (.iaload, 1) := by decide +kernel
theorem dX10_hear_155 : decode cX10_hear 155 = .ok (.if_icmp .le 9, 3) := by decide +kernel
theorem dX10_hear_158 : decode cX10_hear 158 = .ok (.aload_n 0, 1) := by decide +kernel
theorem dX10_hear_159 : decode cX10_hear 159 = .ok (.iload_n 1, 1) := by decide +kernel
theorem dX10_hear_160 : decode cX10_hear 160 = .ok (.iload_n 3, 1) := by decide +kernel
theorem dX10_hear_161 : decode cX10_hear 161 = .ok (.invokevirtual 101, 3) := by decide +kernel
theorem dX10_hear_164 : decode cX10_hear 164 = .ok (.iinc 3 (-1), 3) := by decide +kernel
theorem dX10_hear_167 : decode cX10_hear 167 = .ok (.goto (-46), 3) := by decide +kernel
theorem dX10_hear_170 : decode cX10_hear 170 = .ok (.aload_n 0, 1) := by decide +kernel
theorem dX10_hear_171 : decode cX10_hear 171 = .ok (.iload_n 1, 1) := by decide +kernel
theorem dX10_hear_172 : decode cX10_hear 172 = .ok (.invokevirtual 132, 3) := by decide +kernel
theorem dX10_hear_175 : decode cX10_hear 175 = .ok (.return_, 1) := by decide +kernel
theorem dX10_isSpent_0 : decode cX10_isSpent 0 = .ok (.iload_n 0, 1) := by decide +kernel
theorem dX10_isSpent_1 : decode cX10_isSpent 1 = .ok (.iconst 2, 1) := by decide +kernel
theorem dX10_isSpent_2 : decode cX10_isSpent 2 = .ok (.irem, 1) := by decide +kernel
theorem dX10_isSpent_3 : decode cX10_isSpent 3 = .ok (.iconst 1, 1) := by decide +kernel
theorem dX10_isSpent_4 : decode cX10_isSpent 4 = .ok (.if_icmp .ne 7, 3) := by decide +kernel
theorem dX10_isSpent_7 : decode cX10_isSpent 7 = .ok (.iconst 1, 1) := by decide +kernel
theorem dX10_isSpent_8 : decode cX10_isSpent 8 = .ok (.goto 4, 3) := by decide +kernel
theorem dX10_isSpent_11 : decode cX10_isSpent 11 = .ok (.iconst 0, 1) := by decide +kernel
theorem dX10_isSpent_12 : decode cX10_isSpent 12 = .ok (.ireturn, 1) := by decide +kernel
theorem dX10_hopsOf_0 : decode cX10_hopsOf 0 = .ok (.iload_n 0, 1) := by decide +kernel
theorem dX10_hopsOf_1 : decode cX10_hopsOf 1 = .ok (.iconst 2, 1) := by decide +kernel
theorem dX10_hopsOf_2 : decode cX10_hopsOf 2 = .ok (.idiv, 1) := by decide +kernel
theorem dX10_hopsOf_3 : decode cX10_hopsOf 3 = .ok (.bipush 8, 2) := by decide +kernel
theorem dX10_hopsOf_5 : decode cX10_hopsOf 5 = .ok (.irem, 1) := by decide +kernel
theorem dX10_hopsOf_6 : decode cX10_hopsOf 6 = .ok (.ireturn, 1) := by decide +kernel
theorem dX10_isOwn_0 : decode cX10_isOwn 0 = .ok (.aload_n 0, 1) := by decide +kernel
theorem dX10_isOwn_1 : decode cX10_isOwn 1 = .ok (.getfield 23, 3) := by decide +kernel
theorem dX10_isOwn_4 : decode cX10_isOwn 4 = .ok (.iconst 0, 1) := by decide +kernel
theorem dX10_isOwn_5 : decode cX10_isOwn 5 = .ok (.iaload, 1) := by decide +kernel
theorem dX10_isOwn_6 : decode cX10_isOwn 6 = .ok (.aload_n 0, 1) := by decide +kernel
theorem dX10_isOwn_7 : decode cX10_isOwn 7 = .ok (.getfield 7, 3) := by decide +kernel
theorem dX10_isOwn_10 : decode cX10_isOwn 10 = .ok (.iconst 0, 1) := by decide +kernel
theorem dX10_isOwn_11 : decode cX10_isOwn 11 = .ok (.iload_n 1, 1) := by decide +kernel
theorem dX10_isOwn_12 : decode cX10_isOwn 12 = .ok (.iadd, 1) := by decide +kernel
theorem dX10_isOwn_13 : decode cX10_isOwn 13 = .ok (.iaload, 1) := by decide +kernel
theorem dX10_isOwn_14 : decode cX10_isOwn 14 = .ok (.if_icmp .ne 7, 3) := by decide +kernel
theorem dX10_isOwn_17 : decode cX10_isOwn 17 = .ok (.iconst 1, 1) := by decide +kernel
theorem dX10_isOwn_18 : decode cX10_isOwn 18 = .ok (.goto 4, 3) := by decide +kernel
theorem dX10_isOwn_21 : decode cX10_isOwn 21 = .ok (.iconst 0, 1) := by decide +kernel
theorem dX10_isOwn_22 : decode cX10_isOwn 22 = .ok (.istore_n 2, 1) := by decide +kernel
theorem dX10_isOwn_23 : decode cX10_isOwn 23 = .ok (.iconst 0, 1) := by decide +kernel
theorem dX10_isOwn_24 : decode cX10_isOwn 24 = .ok (.istore_n 3, 1) := by decide +kernel
theorem dX10_isOwn_25 : decode cX10_isOwn 25 = .ok (.iload_n 3, 1) := by decide +kernel
theorem dX10_isOwn_26 : decode cX10_isOwn 26 = .ok (.aload_n 0, 1) := by decide +kernel
theorem dX10_isOwn_27 : decode cX10_isOwn 27 = .ok (.getfield 23, 3) := by decide +kernel
theorem dX10_isOwn_30 : decode cX10_isOwn 30 = .ok (.iconst 2, 1) := by decide +kernel
theorem dX10_isOwn_31 : decode cX10_isOwn 31 = .ok (.iaload, 1) := by decide +kernel
theorem dX10_isOwn_32 : decode cX10_isOwn 32 = .ok (.if_icmp .ge 55, 3) := by decide +kernel
theorem dX10_isOwn_35 : decode cX10_isOwn 35 = .ok (.iload_n 2, 1) := by decide +kernel
theorem dX10_isOwn_36 : decode cX10_isOwn 36 = .ok (.ifCond .ne 39, 3) := by decide +kernel
theorem dX10_isOwn_39 : decode cX10_isOwn 39 = .ok (.aload_n 0, 1) := by decide +kernel
theorem dX10_isOwn_40 : decode cX10_isOwn 40 = .ok (.getfield 23, 3) := by decide +kernel
theorem dX10_isOwn_43 : decode cX10_isOwn 43 = .ok (.iconst 3, 1) := by decide +kernel
theorem dX10_isOwn_44 : decode cX10_isOwn 44 = .ok (.iload_n 3, 1) := by decide +kernel
theorem dX10_isOwn_45 : decode cX10_isOwn 45 = .ok (.iadd, 1) := by decide +kernel
theorem dX10_isOwn_46 : decode cX10_isOwn 46 = .ok (.iaload, 1) := by decide +kernel
theorem dX10_isOwn_47 : decode cX10_isOwn 47 = .ok (.invokestatic 135, 3) := by decide +kernel
theorem dX10_isOwn_50 : decode cX10_isOwn 50 = .ok (.ifCond .eq 29, 3) := by decide +kernel
theorem dX10_isOwn_53 : decode cX10_isOwn 53 = .ok (.aload_n 0, 1) := by decide +kernel
theorem dX10_isOwn_54 : decode cX10_isOwn 54 = .ok (.getfield 23, 3) := by decide +kernel
theorem dX10_isOwn_57 : decode cX10_isOwn 57 = .ok (.iconst 3, 1) := by decide +kernel
theorem dX10_isOwn_58 : decode cX10_isOwn 58 = .ok (.iload_n 3, 1) := by decide +kernel
theorem dX10_isOwn_59 : decode cX10_isOwn 59 = .ok (.iadd, 1) := by decide +kernel
theorem dX10_isOwn_60 : decode cX10_isOwn 60 = .ok (.iaload, 1) := by decide +kernel
theorem dX10_isOwn_61 : decode cX10_isOwn 61 = .ok (.bipush 16, 2) := by decide +kernel
theorem dX10_isOwn_63 : decode cX10_isOwn 63 = .ok (.idiv, 1) := by decide +kernel
theorem dX10_isOwn_64 : decode cX10_isOwn 64 = .ok (.aload_n 0, 1) := by decide +kernel
theorem dX10_isOwn_65 : decode cX10_isOwn 65 = .ok (.getfield 7, 3) := by decide +kernel
theorem dX10_isOwn_68 : decode cX10_isOwn 68 = .ok (.iconst 0, 1) := by decide +kernel
theorem dX10_isOwn_69 : decode cX10_isOwn 69 = .ok (.iload_n 1, 1) := by decide +kernel
theorem dX10_isOwn_70 : decode cX10_isOwn 70 = .ok (.iadd, 1) := by decide +kernel
theorem dX10_isOwn_71 : decode cX10_isOwn 71 = .ok (.iaload, 1) := by decide +kernel
theorem dX10_isOwn_72 : decode cX10_isOwn 72 = .ok (.if_icmp .ne 7, 3) := by decide +kernel
theorem dX10_isOwn_75 : decode cX10_isOwn 75 = .ok (.iconst 1, 1) := by decide +kernel
theorem dX10_isOwn_76 : decode cX10_isOwn 76 = .ok (.goto 4, 3) := by decide +kernel
theorem dX10_isOwn_79 : decode cX10_isOwn 79 = .ok (.iconst 0, 1) := by decide +kernel
theorem dX10_isOwn_80 : decode cX10_isOwn 80 = .ok (.istore_n 2, 1) := by decide +kernel
theorem dX10_isOwn_81 : decode cX10_isOwn 81 = .ok (.iinc 3 1, 3) := by decide +kernel
theorem dX10_isOwn_84 : decode cX10_isOwn 84 = .ok (.goto (-59), 3) := by decide +kernel
theorem dX10_isOwn_87 : decode cX10_isOwn 87 = .ok (.iload_n 2, 1) := by decide +kernel
theorem dX10_isOwn_88 : decode cX10_isOwn 88 = .ok (.ireturn, 1) := by decide +kernel
theorem dX10_look_0 : decode cX10_look 0 = .ok (.aload_n 0, 1) := by decide +kernel
theorem dX10_look_1 : decode cX10_look 1 = .ok (.iload_n 1, 1) := by decide +kernel
theorem dX10_look_2 : decode cX10_look 2 = .ok (.invokevirtual 138, 3) := by decide +kernel
theorem dX10_look_5 : decode cX10_look 5 = .ok (.ifCond .eq 10, 3) := by decide +kernel
theorem dX10_look_8 : decode cX10_look 8 = .ok (.aload_n 0, 1) := by decide +kernel
theorem dX10_look_9 : decode cX10_look 9 = .ok (.iconst 2, 1) := by decide +kernel
theorem dX10_look_10 : decode cX10_look 10 = .ok (.iload_n 1, 1) := by decide +kernel
theorem dX10_look_11 : decode cX10_look 11 = .ok (.invokevirtual 119, 3) := by decide +kernel
theorem dX10_look_14 : decode cX10_look 14 = .ok (.return_, 1) := by decide +kernel
theorem dX10_look_15 : decode cX10_look 15 = .ok (.aload_n 0, 1) := by decide +kernel
theorem dX10_look_16 : decode cX10_look 16 = .ok (.iload_n 1, 1) := by decide +kernel
theorem dX10_look_17 : decode cX10_look 17 = .ok (.aload_n 0, 1) := by decide +kernel
theorem dX10_look_18 : decode cX10_look 18 = .ok (.getfield 23, 3) := by decide +kernel
theorem dX10_look_21 : decode cX10_look 21 = .ok (.iconst 0, 1) := by decide +kernel
theorem dX10_look_22 : decode cX10_look 22 = .ok (.iaload, 1) := by decide +kernel
theorem dX10_look_23 : decode cX10_look 23 = .ok (.aload_n 0, 1) := by decide +kernel
theorem dX10_look_24 : decode cX10_look 24 = .ok (.getfield 23, 3) := by decide +kernel
theorem dX10_look_27 : decode cX10_look 27 = .ok (.iconst 1, 1) := by decide +kernel
theorem dX10_look_28 : decode cX10_look 28 = .ok (.iaload, 1) := by decide +kernel
theorem dX10_look_29 : decode cX10_look 29 = .ok (.invokevirtual 105, 3) := by decide +kernel
theorem dX10_look_32 : decode cX10_look 32 = .ok (.ifCond .lt 10, 3) := by decide +kernel
theorem dX10_look_35 : decode cX10_look 35 = .ok (.aload_n 0, 1) := by decide +kernel
theorem dX10_look_36 : decode cX10_look 36 = .ok (.iconst 3, 1) := by decide +kernel
theorem dX10_look_37 : decode cX10_look 37 = .ok (.iload_n 1, 1) := by decide +kernel
theorem dX10_look_38 : decode cX10_look 38 = .ok (.invokevirtual 119, 3) := by decide +kernel
theorem dX10_look_41 : decode cX10_look 41 = .ok (.return_, 1) := by decide +kernel
theorem dX10_look_42 : decode cX10_look 42 = .ok (.aload_n 0, 1) := by decide +kernel
theorem dX10_look_43 : decode cX10_look 43 = .ok (.iload_n 1, 1) := by decide +kernel
theorem dX10_look_44 : decode cX10_look 44 = .ok (.aload_n 0, 1) := by decide +kernel
theorem dX10_look_45 : decode cX10_look 45 = .ok (.getfield 23, 3) := by decide +kernel
theorem dX10_look_48 : decode cX10_look 48 = .ok (.iconst 0, 1) := by decide +kernel
theorem dX10_look_49 : decode cX10_look 49 = .ok (.iaload, 1) := by decide +kernel
theorem dX10_look_50 : decode cX10_look 50 = .ok (.aload_n 0, 1) := by decide +kernel
theorem dX10_look_51 : decode cX10_look 51 = .ok (.getfield 23, 3) := by decide +kernel
theorem dX10_look_54 : decode cX10_look 54 = .ok (.iconst 1, 1) := by decide +kernel
theorem dX10_look_55 : decode cX10_look 55 = .ok (.iaload, 1) := by decide +kernel
theorem dX10_look_56 : decode cX10_look 56 = .ok (.invokevirtual 109, 3) := by decide +kernel
theorem dX10_look_59 : decode cX10_look 59 = .ok (.iconst 0, 1) := by decide +kernel
theorem dX10_look_60 : decode cX10_look 60 = .ok (.istore_n 2, 1) := by decide +kernel
theorem dX10_look_61 : decode cX10_look 61 = .ok (.iload_n 2, 1) := by decide +kernel
theorem dX10_look_62 : decode cX10_look 62 = .ok (.aload_n 0, 1) := by decide +kernel
theorem dX10_look_63 : decode cX10_look 63 = .ok (.getfield 23, 3) := by decide +kernel
theorem dX10_look_66 : decode cX10_look 66 = .ok (.iconst 2, 1) := by decide +kernel
theorem dX10_look_67 : decode cX10_look 67 = .ok (.iaload, 1) := by decide +kernel
theorem dX10_look_68 : decode cX10_look 68 = .ok (.if_icmp .ge 23, 3) := by decide +kernel
theorem dX10_look_71 : decode cX10_look 71 = .ok (.aload_n 0, 1) := by decide +kernel
theorem dX10_look_72 : decode cX10_look 72 = .ok (.getfield 23, 3) := by decide +kernel
theorem dX10_look_75 : decode cX10_look 75 = .ok (.iconst 3, 1) := by decide +kernel
theorem dX10_look_76 : decode cX10_look 76 = .ok (.iload_n 2, 1) := by decide +kernel
theorem dX10_look_77 : decode cX10_look 77 = .ok (.iadd, 1) := by decide +kernel
theorem dX10_look_78 : decode cX10_look 78 = .ok (.iaload, 1) := by decide +kernel
theorem dX10_look_79 : decode cX10_look 79 = .ok (.invokestatic 135, 3) := by decide +kernel
theorem dX10_look_82 : decode cX10_look 82 = .ok (.ifCond .eq 9, 3) := by decide +kernel
theorem dX10_look_85 : decode cX10_look 85 = .ok (.iinc 2 1, 3) := by decide +kernel
theorem dX10_look_88 : decode cX10_look 88 = .ok (.goto (-27), 3) := by decide +kernel
theorem dX10_look_91 : decode cX10_look 91 = .ok (.iload_n 2, 1) := by decide +kernel
theorem dX10_look_92 : decode cX10_look 92 = .ok (.aload_n 0, 1) := by decide +kernel
theorem dX10_look_93 : decode cX10_look 93 = .ok (.getfield 23, 3) := by decide +kernel
theorem dX10_look_96 : decode cX10_look 96 = .ok (.iconst 2, 1) := by decide +kernel
theorem dX10_look_97 : decode cX10_look 97 = .ok (.iaload, 1) := by decide +kernel
theorem dX10_look_98 : decode cX10_look 98 = .ok (.if_icmp .ne 12, 3) := by decide +kernel
theorem dX10_look_101 : decode cX10_look 101 = .ok (.aload_n 0, 1) := by decide +kernel
theorem dX10_look_102 : decode cX10_look 102 = .ok (.iconst 4, 1) := by decide +kernel
theorem dX10_look_103 : decode cX10_look 103 = .ok (.iload_n 1, 1) := by decide +kernel
theorem dX10_look_104 : decode cX10_look 104 = .ok (.invokevirtual 119, 3) := by decide +kernel
theorem dX10_look_107 : decode cX10_look 107 = .ok (.goto 61, 3) := by decide +kernel
theorem dX10_look_110 : decode cX10_look 110 = .ok (.aload_n 0, 1) := by decide +kernel
theorem dX10_look_111 : decode cX10_look 111 = .ok (.iload_n 1, 1) := by decide +kernel
theorem dX10_look_112 : decode cX10_look 112 = .ok (.iload_n 2, 1) := by decide +kernel
theorem dX10_look_113 : decode cX10_look 113 = .ok (.invokevirtual 141, 3) := by decide +kernel
theorem dX10_look_116 : decode cX10_look 116 = .ok (.ifCond .eq 45, 3) := by decide +kernel
theorem dX10_look_119 : decode cX10_look 119 = .ok (.aload_n 0, 1) := by decide +kernel
theorem dX10_look_120 : decode cX10_look 120 = .ok (.iconst 5, 1) := by decide +kernel
theorem dX10_look_121 : decode cX10_look 121 = .ok (.iload_n 1, 1) := by decide +kernel
theorem dX10_look_122 : decode cX10_look 122 = .ok (.invokevirtual 119, 3) := by decide +kernel
theorem dX10_look_125 : decode cX10_look 125 = .ok (.aload_n 0, 1) := by decide +kernel
theorem dX10_look_126 : decode cX10_look 126 = .ok (.iload_n 1, 1) := by decide +kernel
theorem dX10_look_127 : decode cX10_look 127 = .ok (.aload_n 0, 1) := by decide +kernel
theorem dX10_look_128 : decode cX10_look 128 = .ok (.getfield 7, 3) := by decide +kernel
theorem dX10_look_131 : decode cX10_look 131 = .ok (.sipush 1386, 3) := by decide +kernel
theorem dX10_look_134 : decode cX10_look 134 = .ok (.iaload, 1) := by decide +kernel
theorem dX10_look_135 : decode cX10_look 135 = .ok (.aload_n 0, 1) := by decide +kernel
theorem dX10_look_136 : decode cX10_look 136 = .ok (.getfield 7, 3) := by decide +kernel
theorem dX10_look_139 : decode cX10_look 139 = .ok (.bipush 48, 2) := by decide +kernel
theorem dX10_look_141 : decode cX10_look 141 = .ok (.iload_n 1, 1) := by decide +kernel
theorem dX10_look_142 : decode cX10_look 142 = .ok (.iadd, 1) := by decide +kernel
theorem dX10_look_143 : decode cX10_look 143 = .ok (.iaload, 1) := by decide +kernel
theorem dX10_look_144 : decode cX10_look 144 = .ok (.iadd, 1) := by decide +kernel
theorem dX10_look_145 : decode cX10_look 145 = .ok (.invokevirtual 113, 3) := by decide +kernel
theorem dX10_look_148 : decode cX10_look 148 = .ok (.ifCond .ne 20, 3) := by decide +kernel
theorem dX10_look_151 : decode cX10_look 151 = .ok (.aload_n 0, 1) := by decide +kernel
theorem dX10_look_152 : decode cX10_look 152 = .ok (.bipush 8, 2) := by decide +kernel
theorem dX10_look_154 : decode cX10_look 154 = .ok (.iload_n 1, 1) := by decide +kernel
theorem dX10_look_155 : decode cX10_look 155 = .ok (.invokevirtual 119, 3) := by decide +kernel
theorem dX10_look_158 : decode cX10_look 158 = .ok (.goto 10, 3) := by decide +kernel
theorem dX10_look_161 : decode cX10_look 161 = .ok (.aload_n 0, 1) := by decide +kernel
theorem dX10_look_162 : decode cX10_look 162 = .ok (.bipush 6, 2) := by decide +kernel
theorem dX10_look_164 : decode cX10_look 164 = .ok (.iload_n 1, 1) := by decide +kernel
theorem dX10_look_165 : decode cX10_look 165 = .ok (.invokevirtual 119, 3) := by decide +kernel
theorem dX10_look_168 : decode cX10_look 168 = .ok (.return_, 1) := by decide +kernel
theorem dX10_isOf_0 : decode cX10_isOf 0 = .ok (.iconst 0, 1) := by decide +kernel
theorem dX10_isOf_1 : decode cX10_isOf 1 = .ok (.istore 5, 2) := by decide +kernel
theorem dX10_isOf_3 : decode cX10_isOf 3 = .ok (.iconst 0, 1) := by decide +kernel
theorem dX10_isOf_4 : decode cX10_isOf 4 = .ok (.istore 6, 2) := by decide +kernel
theorem dX10_isOf_6 : decode cX10_isOf 6 = .ok (.iload 6, 2) := by decide +kernel
theorem dX10_isOf_8 : decode cX10_isOf 8 = .ok (.aload_n 0, 1) := by decide +kernel
theorem dX10_isOf_9 : decode cX10_isOf 9 = .ok (.getfield 7, 3) := by decide +kernel
theorem dX10_isOf_12 : decode cX10_isOf 12 = .ok (.iload_n 3, 1) := by decide +kernel
theorem dX10_isOf_13 : decode cX10_isOf 13 = .ok (.iload 4, 2) := by decide +kernel
theorem dX10_isOf_15 : decode cX10_isOf 15 = .ok (.iadd, 1) := by decide +kernel
theorem dX10_isOf_16 : decode cX10_isOf 16 = .ok (.iaload, 1) := by decide +kernel
theorem dX10_isOf_17 : decode cX10_isOf 17 = .ok (.if_icmp .ge 39, 3) := by decide +kernel
theorem dX10_isOf_20 : decode cX10_isOf 20 = .ok (.iload 5, 2) := by decide +kernel
theorem dX10_isOf_22 : decode cX10_isOf 22 = .ok (.ifCond .ne 21, 3) := by decide +kernel
theorem dX10_isOf_25 : decode cX10_isOf 25 = .ok (.aload_n 0, 1) := by decide +kernel
theorem dX10_isOf_26 : decode cX10_isOf 26 = .ok (.getfield 7, 3) := by decide +kernel
theorem dX10_isOf_29 : decode cX10_isOf 29 = .ok (.iload_n 2, 1) := by decide +kernel
theorem dX10_isOf_30 : decode cX10_isOf 30 = .ok (.iconst 2, 1) := by decide +kernel
theorem dX10_isOf_31 : decode cX10_isOf 31 = .ok (.iload 4, 2) := by decide +kernel
theorem dX10_isOf_33 : decode cX10_isOf 33 = .ok (.imul, 1) := by decide +kernel
theorem dX10_isOf_34 : decode cX10_isOf 34 = .ok (.iadd, 1) := by decide +kernel
theorem dX10_isOf_35 : decode cX10_isOf 35 = .ok (.iload 6, 2) := by decide +kernel
theorem dX10_isOf_37 : decode cX10_isOf 37 = .ok (.iadd, 1) := by decide +kernel
theorem dX10_isOf_38 : decode cX10_isOf 38 = .ok (.iaload, 1) := by decide +kernel
theorem dX10_isOf_39 : decode cX10_isOf 39 = .ok (.iload_n 1, 1) := by decide +kernel
theorem dX10_isOf_40 : decode cX10_isOf 40 = .ok (.if_icmp .ne 7, 3) := by decide +kernel
theorem dX10_isOf_43 : decode cX10_isOf 43 = .ok (.iconst 1, 1) := by decide +kernel
theorem dX10_isOf_44 : decode cX10_isOf 44 = .ok (.goto 4, 3) := by decide +kernel
theorem dX10_isOf_47 : decode cX10_isOf 47 = .ok (.iconst 0, 1) := by decide +kernel
theorem dX10_isOf_48 : decode cX10_isOf 48 = .ok (.istore 5, 2) := by decide +kernel
theorem dX10_isOf_50 : decode cX10_isOf 50 = .ok (.iinc 6 1, 3) := by decide +kernel
theorem dX10_isOf_53 : decode cX10_isOf 53 = .ok (.goto (-47), 3) := by decide +kernel
theorem dX10_isOf_56 : decode cX10_isOf 56 = .ok (.iload 5, 2) := by decide +kernel
theorem dX10_isOf_58 : decode cX10_isOf 58 = .ok (.ireturn, 1) := by decide +kernel
theorem dX10_isFor_0 : decode cX10_isFor 0 = .ok (.aload_n 0, 1) := by decide +kernel
theorem dX10_isFor_1 : decode cX10_isFor 1 = .ok (.getfield 23, 3) := by decide +kernel
theorem dX10_isFor_4 : decode cX10_isFor 4 = .ok (.iconst 3, 1) := by decide +kernel
theorem dX10_isFor_5 : decode cX10_isFor 5 = .ok (.iload_n 2, 1) := by decide +kernel
theorem dX10_isFor_6 : decode cX10_isFor 6 = .ok (.iadd, 1) := by decide +kernel
theorem dX10_isFor_7 : decode cX10_isFor 7 = .ok (.iaload, 1) := by decide +kernel
theorem dX10_isFor_8 : decode cX10_isFor 8 = .ok (.bipush 16, 2) := by decide +kernel
theorem dX10_isFor_10 : decode cX10_isFor 10 = .ok (.idiv, 1) := by decide +kernel
theorem dX10_isFor_11 : decode cX10_isFor 11 = .ok (.istore_n 3, 1) := by decide +kernel
theorem dX10_isFor_12 : decode cX10_isFor 12 = .ok (.aload_n 0, 1) := by decide +kernel
theorem dX10_isFor_13 : decode cX10_isFor 13 = .ok (.getfield 23, 3) := by decide +kernel
theorem dX10_isFor_16 : decode cX10_isFor 16 = .ok (.iconst 3, 1) := by decide +kernel
theorem dX10_isFor_17 : decode cX10_isFor 17 = .ok (.iload_n 2, 1) := by decide +kernel
theorem dX10_isFor_18 : decode cX10_isFor 18 = .ok (.iadd, 1) := by decide +kernel
theorem dX10_isFor_19 : decode cX10_isFor 19 = .ok (.iaload, 1) := by decide +kernel
theorem dX10_isFor_20 : decode cX10_isFor 20 = .ok (.invokestatic 144, 3) := by decide +kernel
theorem dX10_isFor_23 : decode cX10_isFor 23 = .ok (.istore 4, 2) := by decide +kernel
theorem dX10_isFor_25 : decode cX10_isFor 25 = .ok (.bipush 16, 2) := by decide +kernel
theorem dX10_isFor_27 : decode cX10_isFor 27 = .ok (.aload_n 0, 1) := by decide +kernel
theorem dX10_isFor_28 : decode cX10_isFor 28 = .ok (.getfield 7, 3) := by decide +kernel
theorem dX10_isFor_31 : decode cX10_isFor 31 = .ok (.iconst 0, 1) := by decide +kernel
theorem dX10_isFor_32 : decode cX10_isFor 32 = .ok (.iload_n 1, 1) := by decide +kernel
theorem dX10_isFor_33 : decode cX10_isFor 33 = .ok (.iadd, 1) := by decide +kernel
theorem dX10_isFor_34 : decode cX10_isFor 34 = .ok (.iaload, 1) := by decide +kernel
theorem dX10_isFor_35 : decode cX10_isFor 35 = .ok (.imul, 1) := by decide +kernel
theorem dX10_isFor_36 : decode cX10_isFor 36 = .ok (.iconst 1, 1) := by decide +kernel
theorem dX10_isFor_37 : decode cX10_isFor 37 = .ok (.iadd, 1) := by decide +kernel
theorem dX10_isFor_38 : decode cX10_isFor 38 = .ok (.istore 5, 2) := by decide +kernel
theorem dX10_isFor_40 : decode cX10_isFor 40 = .ok (.iload_n 3, 1) := by decide +kernel
theorem dX10_isFor_41 : decode cX10_isFor 41 = .ok (.aload_n 0, 1) := by decide +kernel
theorem dX10_isFor_42 : decode cX10_isFor 42 = .ok (.getfield 7, 3) := by decide +kernel
theorem dX10_isFor_45 : decode cX10_isFor 45 = .ok (.iconst 0, 1) := by decide +kernel
theorem dX10_isFor_46 : decode cX10_isFor 46 = .ok (.iload_n 1, 1) := by decide +kernel
theorem dX10_isFor_47 : decode cX10_isFor 47 = .ok (.iadd, 1) := by decide +kernel
theorem dX10_isFor_48 : decode cX10_isFor 48 = .ok (.iaload, 1) := by decide +kernel
theorem dX10_isFor_49 : decode cX10_isFor 49 = .ok (.if_icmp .eq 21, 3) := by decide +kernel
theorem dX10_isFor_52 : decode cX10_isFor 52 = .ok (.iload 4, 2) := by decide +kernel
theorem dX10_isFor_54 : decode cX10_isFor 54 = .ok (.ifCond .ne 28, 3) := by decide +kernel
theorem dX10_isFor_57 : decode cX10_isFor 57 = .ok (.aload_n 0, 1) := by decide +kernel
theorem dX10_isFor_58 : decode cX10_isFor 58 = .ok (.iload_n 3, 1) := by decide +kernel
theorem dX10_isFor_59 : decode cX10_isFor 59 = .ok (.bipush 6, 2) := by decide +kernel
theorem dX10_isFor_61 : decode cX10_isFor 61 = .ok (.bipush 18, 2) := by decide +kernel
theorem dX10_isFor_63 : decode cX10_isFor 63 = .ok (.iload_n 1, 1) := by decide +kernel
theorem dX10_isFor_64 : decode cX10_isFor 64 = .ok (.invokevirtual 147, 3) := by decide +kernel
theorem dX10_isFor_67 : decode cX10_isFor 67 = .ok (.ifCond .eq 15, 3) := by decide +kernel
theorem dX10_isFor_70 : decode cX10_isFor 70 = .ok (.aload_n 0, 1) := by decide +kernel
theorem dX10_isFor_71 : decode cX10_isFor 71 = .ok (.getfield 23, 3) := by decide +kernel
theorem dX10_isFor_74 : decode cX10_isFor 74 = .ok (.iconst 3, 1) := by decide +kernel
theorem dX10_isFor_75 : decode cX10_isFor 75 = .ok (.iload_n 2, 1) := by decide +kernel
theorem dX10_isFor_76 : decode cX10_isFor 76 = .ok (.iadd, 1) := by decide +kernel
theorem dX10_isFor_77 : decode cX10_isFor 77 = .ok (.iload 5, 2) := by decide +kernel
theorem dX10_isFor_79 : decode cX10_isFor 79 = .ok (.iastore, 1) := by decide +kernel
theorem dX10_isFor_80 : decode cX10_isFor 80 = .ok (.iconst 1, 1) := by decide +kernel
theorem dX10_isFor_81 : decode cX10_isFor 81 = .ok (.ireturn, 1) := by decide +kernel
theorem dX10_isFor_82 : decode cX10_isFor 82 = .ok (.iload 4, 2) := by decide +kernel
theorem dX10_isFor_84 : decode cX10_isFor 84 = .ok (.ifCond .eq 16, 3) := by decide +kernel
theorem dX10_isFor_87 : decode cX10_isFor 87 = .ok (.aload_n 0, 1) := by decide +kernel
theorem dX10_isFor_88 : decode cX10_isFor 88 = .ok (.iload_n 3, 1) := by decide +kernel
theorem dX10_isFor_89 : decode cX10_isFor 89 = .ok (.bipush 24, 2) := by decide +kernel
theorem dX10_isFor_91 : decode cX10_isFor 91 = .ok (.bipush 36, 2) := by decide +kernel
theorem dX10_isFor_93 : decode cX10_isFor 93 = .ok (.iload_n 1, 1) := by decide +kernel
theorem dX10_isFor_94 : decode cX10_isFor 94 = .ok (.invokevirtual 147, 3) := by decide +kernel
theorem dX10_isFor_97 : decode cX10_isFor 97 = .ok (.ifCond .ne 5, 3) := by decide +kernel
theorem dX10_isFor_100 : decode cX10_isFor 100 = .ok (.iconst 0, 1) := by decide +kernel
theorem dX10_isFor_101 : decode cX10_isFor 101 = .ok (.ireturn, 1) := by decide +kernel
theorem dX10_isFor_102 : decode cX10_isFor 102 = .ok (.iload 4, 2) := by decide +kernel
theorem dX10_isFor_104 : decode cX10_isFor 104 = .ok (.aload_n 0, 1) := by decide +kernel
theorem dX10_isFor_105 : decode cX10_isFor 105 = .ok (.getfield 7, 3) := by decide +kernel
theorem dX10_isFor_108 : decode cX10_isFor 108 = .ok (.bipush 42, 2) := by decide +kernel
theorem dX10_isFor_110 : decode cX10_isFor 110 = .ok (.iload_n 1, 1) := by decide +kernel
theorem dX10_isFor_111 : decode cX10_isFor 111 = .ok (.iadd, 1) := by decide +kernel
theorem dX10_isFor_112 : decode cX10_isFor 112 = .ok (.iaload, 1) := by decide +kernel
theorem dX10_isFor_113 : decode cX10_isFor 113 = .ok (.if_icmp .le 15, 3) := by decide +kernel
theorem dX10_isFor_116 : decode cX10_isFor 116 = .ok (.aload_n 0, 1) := by decide +kernel
theorem dX10_isFor_117 : decode cX10_isFor 117 = .ok (.getfield 7, 3) := by decide +kernel
theorem dX10_isFor_120 : decode cX10_isFor 120 = .ok (.bipush 42, 2) := by decide +kernel
theorem dX10_isFor_122 : decode cX10_isFor 122 = .ok (.iload_n 1, 1) := by decide +kernel
theorem dX10_isFor_123 : decode cX10_isFor 123 = .ok (.iadd, 1) := by decide +kernel
theorem dX10_isFor_124 : decode cX10_isFor 124 = .ok (.iaload, 1) := by decide +kernel
theorem dX10_isFor_125 : decode cX10_isFor 125 = .ok (.goto 5, 3) := by decide +kernel
theorem dX10_isFor_128 : decode cX10_isFor 128 = .ok (.iload 4, 2) := by decide +kernel
theorem dX10_isFor_130 : decode cX10_isFor 130 = .ok (.iconst 1, 1) := by decide +kernel
theorem dX10_isFor_131 : decode cX10_isFor 131 = .ok (.isub, 1) := by decide +kernel
theorem dX10_isFor_132 : decode cX10_isFor 132 = .ok (.istore 4, 2) := by decide +kernel
theorem dX10_isFor_134 : decode cX10_isFor 134 = .ok (.aload_n 0, 1) := by decide +kernel
theorem dX10_isFor_135 : decode cX10_isFor 135 = .ok (.getfield 23, 3) := by decide +kernel
theorem dX10_isFor_138 : decode cX10_isFor 138 = .ok (.iconst 3, 1) := by decide +kernel
theorem dX10_isFor_139 : decode cX10_isFor 139 = .ok (.iload_n 2, 1) := by decide +kernel
theorem dX10_isFor_140 : decode cX10_isFor 140 = .ok (.iadd, 1) := by decide +kernel
theorem dX10_isFor_141 : decode cX10_isFor 141 = .ok (.iload 4, 2) := by decide +kernel
theorem dX10_isFor_143 : decode cX10_isFor 143 = .ok (.ifCond .ne 8, 3) := by decide +kernel
theorem dX10_isFor_146 : decode cX10_isFor 146 = .ok (.iload 5, 2) := by decide +kernel
theorem dX10_isFor_148 : decode cX10_isFor 148 = .ok (.goto 12, 3) := by decide +kernel
theorem dX10_isFor_151 : decode cX10_isFor 151 = .ok (.bipush 16, 2) := by decide +kernel
theorem dX10_isFor_153 : decode cX10_isFor 153 = .ok (.iload_n 3, 1) := by decide +kernel
theorem dX10_isFor_154 : decode cX10_isFor 154 = .ok (.imul, 1) := by decide +kernel
theorem dX10_isFor_155 : decode cX10_isFor 155 = .ok (.iconst 2, 1) := by decide +kernel
theorem dX10_isFor_156 : decode cX10_isFor 156 = .ok (.iload 4, 2) := by decide +kernel
theorem dX10_isFor_158 : decode cX10_isFor 158 = .ok (.imul, 1) := by decide +kernel
theorem dX10_isFor_159 : decode cX10_isFor 159 = .ok (.iadd, 1) := by decide +kernel
theorem dX10_isFor_160 : decode cX10_isFor 160 = .ok (.iastore, 1) := by decide +kernel
theorem dX10_isFor_161 : decode cX10_isFor 161 = .ok (.iload 4, 2) := by decide +kernel
theorem dX10_isFor_163 : decode cX10_isFor 163 = .ok (.ifCond .le 72, 3) := by decide +kernel
theorem dX10_isFor_166 : decode cX10_isFor 166 = .ok (.aload_n 0, 1) := by decide +kernel
theorem dX10_isFor_167 : decode cX10_isFor 167 = .ok (.getfield 23, 3) := by decide +kernel
theorem dX10_isFor_170 : decode cX10_isFor 170 = .ok (.iconst 2, 1) := by decide +kernel
theorem dX10_isFor_171 : decode cX10_isFor 171 = .ok (.iaload, 1) := by decide +kernel
theorem dX10_isFor_172 : decode cX10_isFor 172 = .ok (.bipush 8, 2) := by decide +kernel
theorem dX10_isFor_174 : decode cX10_isFor 174 = .ok (.if_icmp .ge 61, 3) := by decide +kernel
theorem dX10_isFor_177 : decode cX10_isFor 177 = .ok (.aload_n 0, 1) := by decide +kernel
theorem dX10_isFor_178 : decode cX10_isFor 178 = .ok (.getfield 23, 3) := by decide +kernel
theorem dX10_isFor_181 : decode cX10_isFor 181 = .ok (.iconst 2, 1) := by decide +kernel
theorem dX10_isFor_182 : decode cX10_isFor 182 = .ok (.iaload, 1) := by decide +kernel
theorem dX10_isFor_183 : decode cX10_isFor 183 = .ok (.istore 6, 2) := by decide +kernel
theorem dX10_isFor_185 : decode cX10_isFor 185 = .ok (.iload 6, 2) := by decide +kernel
theorem dX10_isFor_187 : decode cX10_isFor 187 = .ok (.iload_n 2, 1) := by decide +kernel
theorem dX10_isFor_188 : decode cX10_isFor 188 = .ok (.if_icmp .le 27, 3) := by decide +kernel
theorem dX10_isFor_191 : decode cX10_isFor 191 = .ok (.aload_n 0, 1) := by decide +kernel
theorem dX10_isFor_192 : decode cX10_isFor 192 = .ok (.getfield 23, 3) := by decide +kernel
theorem dX10_isFor_195 : decode cX10_isFor 195 = .ok (.iconst 3, 1) := by decide +kernel
theorem dX10_isFor_196 : decode cX10_isFor 196 = .ok (.iload 6, 2) := by decide +kernel
theorem dX10_isFor_198 : decode cX10_isFor 198 = .ok (.iadd, 1) := by decide +kernel
theorem dX10_isFor_199 : decode cX10_isFor 199 = .ok (.aload_n 0, 1) := by decide +kernel
theorem dX10_isFor_200 : decode cX10_isFor 200 = .ok (.getfield 23, 3) := by decide +kernel
theorem dX10_isFor_203 : decode cX10_isFor 203 = .ok (.iconst 2, 1) := by decide +kernel
theorem dX10_isFor_204 : decode cX10_isFor 204 = .ok (.iload 6, 2) := by decide +kernel
theorem dX10_isFor_206 : decode cX10_isFor 206 = .ok (.iadd, 1) := by decide +kernel
theorem dX10_isFor_207 : decode cX10_isFor 207 = .ok (.iaload, 1) := by decide +kernel
theorem dX10_isFor_208 : decode cX10_isFor 208 = .ok (.iastore, 1) := by decide +kernel
theorem dX10_isFor_209 : decode cX10_isFor 209 = .ok (.iinc 6 (-1), 3) := by decide +kernel
theorem dX10_isFor_212 : decode cX10_isFor 212 = .ok (.goto (-27), 3) := by decide +kernel
theorem dX10_isFor_215 : decode cX10_isFor 215 = .ok (.aload_n 0, 1) := by decide +kernel
theorem dX10_isFor_216 : decode cX10_isFor 216 = .ok (.getfield 23, 3) := by decide +kernel
theorem dX10_isFor_219 : decode cX10_isFor 219 = .ok (.iconst 3, 1) := by decide +kernel
theorem dX10_isFor_220 : decode cX10_isFor 220 = .ok (.iload_n 2, 1) := by decide +kernel
theorem dX10_isFor_221 : decode cX10_isFor 221 = .ok (.iadd, 1) := by decide +kernel
theorem dX10_isFor_222 : decode cX10_isFor 222 = .ok (.iload 5, 2) := by decide +kernel
theorem dX10_isFor_224 : decode cX10_isFor 224 = .ok (.iastore, 1) := by decide +kernel
theorem dX10_isFor_225 : decode cX10_isFor 225 = .ok (.aload_n 0, 1) := by decide +kernel
theorem dX10_isFor_226 : decode cX10_isFor 226 = .ok (.getfield 23, 3) := by decide +kernel
theorem dX10_isFor_229 : decode cX10_isFor 229 = .ok (.iconst 2, 1) := by decide +kernel
theorem dX10_isFor_230 : decode cX10_isFor 230 = .ok (.dup2, 1) := by decide +kernel
theorem dX10_isFor_231 : decode cX10_isFor 231 = .ok (.iaload, 1) := by decide +kernel
theorem dX10_isFor_232 : decode cX10_isFor 232 = .ok (.iconst 1, 1) := by decide +kernel
theorem dX10_isFor_233 : decode cX10_isFor 233 = .ok (.iadd, 1) := by decide +kernel
theorem dX10_isFor_234 : decode cX10_isFor 234 = .ok (.iastore, 1) := by decide +kernel
theorem dX10_isFor_235 : decode cX10_isFor 235 = .ok (.iconst 1, 1) := by decide +kernel
theorem dX10_isFor_236 : decode cX10_isFor 236 = .ok (.ireturn, 1) := by decide +kernel
theorem dX10_keptByAll_0 : decode cX10_keptByAll 0 = .ok (.iconst 0, 1) := by decide +kernel
theorem dX10_keptByAll_1 : decode cX10_keptByAll 1 = .ok (.istore_n 1, 1) := by decide +kernel
theorem dX10_keptByAll_2 : decode cX10_keptByAll 2 = .ok (.iconst 0, 1) := by decide +kernel
theorem dX10_keptByAll_3 : decode cX10_keptByAll 3 = .ok (.istore_n 2, 1) := by decide +kernel
