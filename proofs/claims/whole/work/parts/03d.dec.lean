theorem dX10_happens_113 : decode cX10_happens 113 = .ok (.return_, 1) := by decide +kernel
theorem dX10_comesBack_0 : decode cX10_comesBack 0 = .ok (.aload_n 0, 1) := by decide +kernel
theorem dX10_comesBack_1 : decode cX10_comesBack 1 = .ok (.iload_n 1, 1) := by decide +kernel
theorem dX10_comesBack_2 : decode cX10_comesBack 2 = .ok (.bipush 6, 2) := by decide +kernel
theorem dX10_comesBack_4 : decode cX10_comesBack 4 = .ok (.invokestatic 55, 3) := by decide +kernel
theorem dX10_comesBack_7 : decode cX10_comesBack 7 = .ok (.aload_n 0, 1) := by decide +kernel
theorem dX10_comesBack_8 : decode cX10_comesBack 8 = .ok (.iconst 2, 1) := by decide +kernel
theorem dX10_comesBack_9 : decode cX10_comesBack 9 = .ok (.invokevirtual 48, 3) := by decide +kernel
theorem dX10_comesBack_12 : decode cX10_comesBack 12 = .ok (.aload_n 0, 1) := by decide +kernel
theorem dX10_comesBack_13 : decode cX10_comesBack 13 = .ok (.aload_n 0, 1) := by decide +kernel
theorem dX10_comesBack_14 : decode cX10_comesBack 14 = .ok (.iload_n 1, 1) := by decide +kernel
theorem dX10_comesBack_15 : decode cX10_comesBack 15 = .ok (.invokevirtual 79, 3) := by decide +kernel
theorem dX10_comesBack_18 : decode cX10_comesBack 18 = .ok (.invokevirtual 82, 3) := by decide +kernel
theorem dX10_comesBack_21 : decode cX10_comesBack 21 = .ok (.i2l, 1) := by decide +kernel
theorem dX10_comesBack_22 : decode cX10_comesBack 22 = .ok (.ladd, 1) := by decide +kernel
theorem dX10_comesBack_23 : decode cX10_comesBack 23 = .ok (.invokevirtual 40, 3) := by decide +kernel
theorem dX10_comesBack_26 : decode cX10_comesBack 26 = .ok (.aload_n 0, 1) := by decide +kernel
theorem dX10_comesBack_27 : decode cX10_comesBack 27 = .ok (.iload_n 1, 1) := by decide +kernel
theorem dX10_comesBack_28 : decode cX10_comesBack 28 = .ok (.bipush 7, 2) := by decide +kernel
theorem dX10_comesBack_30 : decode cX10_comesBack 30 = .ok (.invokestatic 55, 3) := by decide +kernel
theorem dX10_comesBack_33 : decode cX10_comesBack 33 = .ok (.iload_n 2, 1) := by decide +kernel
theorem dX10_comesBack_34 : decode cX10_comesBack 34 = .ok (.ifCond .eq 7, 3) := by decide +kernel
theorem dX10_comesBack_37 : decode cX10_comesBack 37 = .ok (.lconst 1, 1) := by decide +kernel
theorem dX10_comesBack_38 : decode cX10_comesBack 38 = .ok (.goto 4, 3) := by decide +kernel
theorem dX10_comesBack_41 : decode cX10_comesBack 41 = .ok (.lconst 0, 1) := by decide +kernel
theorem dX10_comesBack_42 : decode cX10_comesBack 42 = .ok (.invokevirtual 40, 3) := by decide +kernel
theorem dX10_comesBack_45 : decode cX10_comesBack 45 = .ok (.aload_n 0, 1) := by decide +kernel
theorem dX10_comesBack_46 : decode cX10_comesBack 46 = .ok (.sipush 5108, 3) := by decide +kernel
theorem dX10_comesBack_49 : decode cX10_comesBack 49 = .ok (.aload_n 0, 1) := by decide +kernel
theorem dX10_comesBack_50 : decode cX10_comesBack 50 = .ok (.iconst 5, 1) := by decide +kernel
theorem dX10_comesBack_51 : decode cX10_comesBack 51 = .ok (.invokevirtual 58, 3) := by decide +kernel
theorem dX10_comesBack_54 : decode cX10_comesBack 54 = .ok (.iadd, 1) := by decide +kernel
theorem dX10_comesBack_55 : decode cX10_comesBack 55 = .ok (.iload_n 1, 1) := by decide +kernel
theorem dX10_comesBack_56 : decode cX10_comesBack 56 = .ok (.i2l, 1) := by decide +kernel
theorem dX10_comesBack_57 : decode cX10_comesBack 57 = .ok (.invokevirtual 40, 3) := by decide +kernel
theorem dX10_comesBack_60 : decode cX10_comesBack 60 = .ok (.aload_n 0, 1) := by decide +kernel
theorem dX10_comesBack_61 : decode cX10_comesBack 61 = .ok (.iconst 5, 1) := by decide +kernel
theorem dX10_comesBack_62 : decode cX10_comesBack 62 = .ok (.lconst 1, 1) := by decide +kernel
theorem dX10_comesBack_63 : decode cX10_comesBack 63 = .ok (.invokevirtual 76, 3) := by decide +kernel
theorem dX10_comesBack_66 : decode cX10_comesBack 66 = .ok (.return_, 1) := by decide +kernel
theorem dX10_partOf_0 : decode cX10_partOf 0 = .ok (.lconst 1, 1) := by decide +kernel
theorem dX10_partOf_1 : decode cX10_partOf 1 = .ok (.ldc2_w 85, 3) := by decide +kernel
theorem dX10_partOf_4 : decode cX10_partOf 4 = .ok (.aload_n 0, 1) := by decide +kernel
theorem dX10_partOf_5 : decode cX10_partOf 5 = .ok (.iload_n 1, 1) := by decide +kernel
theorem dX10_partOf_6 : decode cX10_partOf 6 = .ok (.iconst 4, 1) := by decide +kernel
theorem dX10_partOf_7 : decode cX10_partOf 7 = .ok (.invokestatic 55, 3) := by decide +kernel
theorem dX10_partOf_10 : decode cX10_partOf 10 = .ok (.invokevirtual 48, 3) := by decide +kernel
theorem dX10_partOf_13 : decode cX10_partOf 13 = .ok (.lmul, 1) := by decide +kernel
theorem dX10_partOf_14 : decode cX10_partOf 14 = .ok (.aload_n 0, 1) := by decide +kernel
theorem dX10_partOf_15 : decode cX10_partOf 15 = .ok (.iload_n 1, 1) := by decide +kernel
theorem dX10_partOf_16 : decode cX10_partOf 16 = .ok (.iconst 3, 1) := by decide +kernel
theorem dX10_partOf_17 : decode cX10_partOf 17 = .ok (.invokestatic 55, 3) := by decide +kernel
theorem dX10_partOf_20 : decode cX10_partOf 20 = .ok (.invokevirtual 48, 3) := by decide +kernel
theorem dX10_partOf_23 : decode cX10_partOf 23 = .ok (.ldiv, 1) := by decide +kernel
theorem dX10_partOf_24 : decode cX10_partOf 24 = .ok (.invokestatic 87, 3) := by decide +kernel
theorem dX10_partOf_27 : decode cX10_partOf 27 = .ok (.lreturn, 1) := by decide +kernel
theorem dX10_comes_0 : decode cX10_comes 0 = .ok (.aload_n 0, 1) := by decide +kernel
theorem dX10_comes_1 : decode cX10_comes 1 = .ok (.iload_n 1, 1) := by decide +kernel
theorem dX10_comes_2 : decode cX10_comes 2 = .ok (.invokevirtual 79, 3) := by decide +kernel
theorem dX10_comes_5 : decode cX10_comes 5 = .ok (.istore_n 3, 1) := by decide +kernel
theorem dX10_comes_6 : decode cX10_comes 6 = .ok (.aload_n 0, 1) := by decide +kernel
theorem dX10_comes_7 : decode cX10_comes 7 = .ok (.iload_n 2, 1) := by decide +kernel
theorem dX10_comes_8 : decode cX10_comes 8 = .ok (.bipush 14, 2) := by decide +kernel
theorem dX10_comes_10 : decode cX10_comes 10 = .ok (.invokevirtual 69, 3) := by decide +kernel
theorem dX10_comes_13 : decode cX10_comes 13 = .ok (.iload_n 3, 1) := by decide +kernel
theorem dX10_comes_14 : decode cX10_comes 14 = .ok (.invokestatic 93, 3) := by decide +kernel
theorem dX10_comes_17 : decode cX10_comes 17 = .ok (.ifCond .eq 27, 3) := by decide +kernel
theorem dX10_comes_20 : decode cX10_comes 20 = .ok (.aload_n 0, 1) := by decide +kernel
theorem dX10_comes_21 : decode cX10_comes 21 = .ok (.iload_n 2, 1) := by decide +kernel
theorem dX10_comes_22 : decode cX10_comes 22 = .ok (.bipush 20, 2) := by decide +kernel
theorem dX10_comes_24 : decode cX10_comes 24 = .ok (.iload_n 3, 1) := by decide +kernel
theorem dX10_comes_25 : decode cX10_comes 25 = .ok (.iadd, 1) := by decide +kernel
theorem dX10_comes_26 : decode cX10_comes 26 = .ok (.invokevirtual 69, 3) := by decide +kernel
theorem dX10_comes_29 : decode cX10_comes 29 = .ok (.aload_n 0, 1) := by decide +kernel
theorem dX10_comes_30 : decode cX10_comes 30 = .ok (.iload_n 2, 1) := by decide +kernel
theorem dX10_comes_31 : decode cX10_comes 31 = .ok (.bipush 15, 2) := by decide +kernel
theorem dX10_comes_33 : decode cX10_comes 33 = .ok (.invokevirtual 69, 3) := by decide +kernel
theorem dX10_comes_36 : decode cX10_comes 36 = .ok (.lcmp, 1) := by decide +kernel
theorem dX10_comes_37 : decode cX10_comes 37 = .ok (.ifCond .lt 7, 3) := by decide +kernel
theorem dX10_comes_40 : decode cX10_comes 40 = .ok (.iconst 1, 1) := by decide +kernel
theorem dX10_comes_41 : decode cX10_comes 41 = .ok (.goto 4, 3) := by decide +kernel
theorem dX10_comes_44 : decode cX10_comes 44 = .ok (.iconst 0, 1) := by decide +kernel
theorem dX10_comes_45 : decode cX10_comes 45 = .ok (.istore 4, 2) := by decide +kernel
theorem dX10_comes_47 : decode cX10_comes 47 = .ok (.iload 4, 2) := by decide +kernel
theorem dX10_comes_49 : decode cX10_comes 49 = .ok (.ifCond .ne 19, 3) := by decide +kernel
theorem dX10_comes_52 : decode cX10_comes 52 = .ok (.aload_n 0, 1) := by decide +kernel
theorem dX10_comes_53 : decode cX10_comes 53 = .ok (.iload_n 2, 1) := by decide +kernel
theorem dX10_comes_54 : decode cX10_comes 54 = .ok (.iconst 4, 1) := by decide +kernel
theorem dX10_comes_55 : decode cX10_comes 55 = .ok (.invokevirtual 69, 3) := by decide +kernel
theorem dX10_comes_58 : decode cX10_comes 58 = .ok (.aload_n 0, 1) := by decide +kernel
theorem dX10_comes_59 : decode cX10_comes 59 = .ok (.iload_n 2, 1) := by decide +kernel
theorem dX10_comes_60 : decode cX10_comes 60 = .ok (.iconst 2, 1) := by decide +kernel
theorem dX10_comes_61 : decode cX10_comes 61 = .ok (.invokevirtual 69, 3) := by decide +kernel
theorem dX10_comes_64 : decode cX10_comes 64 = .ok (.lcmp, 1) := by decide +kernel
theorem dX10_comes_65 : decode cX10_comes 65 = .ok (.ifCond .lt 27, 3) := by decide +kernel
theorem dX10_comes_68 : decode cX10_comes 68 = .ok (.aload_n 0, 1) := by decide +kernel
theorem dX10_comes_69 : decode cX10_comes 69 = .ok (.dup, 1) := by decide +kernel
theorem dX10_comes_70 : decode cX10_comes 70 = .ok (.getfield 97, 3) := by decide +kernel
theorem dX10_comes_73 : decode cX10_comes 73 = .ok (.iconst 1, 1) := by decide +kernel
theorem dX10_comes_74 : decode cX10_comes 74 = .ok (.iadd, 1) := by decide +kernel
theorem dX10_comes_75 : decode cX10_comes 75 = .ok (.putfield 97, 3) := by decide +kernel
theorem dX10_comes_78 : decode cX10_comes 78 = .ok (.aload_n 0, 1) := by decide +kernel
theorem dX10_comes_79 : decode cX10_comes 79 = .ok (.iconst 0, 1) := by decide +kernel
theorem dX10_comes_80 : decode cX10_comes 80 = .ok (.iload_n 2, 1) := by decide +kernel
theorem dX10_comes_81 : decode cX10_comes 81 = .ok (.iload_n 3, 1) := by decide +kernel
theorem dX10_comes_82 : decode cX10_comes 82 = .ok (.invokevirtual 100, 3) := by decide +kernel
theorem dX10_comes_85 : decode cX10_comes 85 = .ok (.aload_n 0, 1) := by decide +kernel
theorem dX10_comes_86 : decode cX10_comes 86 = .ok (.iload_n 1, 1) := by decide +kernel
theorem dX10_comes_87 : decode cX10_comes 87 = .ok (.iconst 1, 1) := by decide +kernel
theorem dX10_comes_88 : decode cX10_comes 88 = .ok (.invokevirtual 104, 3) := by decide +kernel
theorem dX10_comes_91 : decode cX10_comes 91 = .ok (.return_, 1) := by decide +kernel
theorem dX10_comes_92 : decode cX10_comes 92 = .ok (.aload_n 0, 1) := by decide +kernel
theorem dX10_comes_93 : decode cX10_comes 93 = .ok (.sipush 4208, 3) := by decide +kernel
theorem dX10_comes_96 : decode cX10_comes 96 = .ok (.bipush 60, 2) := by decide +kernel
theorem dX10_comes_98 : decode cX10_comes 98 = .ok (.iload_n 2, 1) := by decide +kernel
theorem dX10_comes_99 : decode cX10_comes 99 = .ok (.imul, 1) := by decide +kernel
theorem dX10_comes_100 : decode cX10_comes 100 = .ok (.iadd, 1) := by decide +kernel
theorem dX10_comes_101 : decode cX10_comes 101 = .ok (.aload_n 0, 1) := by decide +kernel
theorem dX10_comes_102 : decode cX10_comes 102 = .ok (.iload_n 2, 1) := by decide +kernel
theorem dX10_comes_103 : decode cX10_comes 103 = .ok (.iconst 4, 1) := by decide +kernel
theorem dX10_comes_104 : decode cX10_comes 104 = .ok (.invokestatic 44, 3) := by decide +kernel
theorem dX10_comes_107 : decode cX10_comes 107 = .ok (.invokevirtual 58, 3) := by decide +kernel
theorem dX10_comes_110 : decode cX10_comes 110 = .ok (.iadd, 1) := by decide +kernel
theorem dX10_comes_111 : decode cX10_comes 111 = .ok (.iload_n 1, 1) := by decide +kernel
theorem dX10_comes_112 : decode cX10_comes 112 = .ok (.i2l, 1) := by decide +kernel
theorem dX10_comes_113 : decode cX10_comes 113 = .ok (.invokevirtual 40, 3) := by decide +kernel
theorem dX10_comes_116 : decode cX10_comes 116 = .ok (.aload_n 0, 1) := by decide +kernel
theorem dX10_comes_117 : decode cX10_comes 117 = .ok (.iload_n 2, 1) := by decide +kernel
theorem dX10_comes_118 : decode cX10_comes 118 = .ok (.iconst 4, 1) := by decide +kernel
theorem dX10_comes_119 : decode cX10_comes 119 = .ok (.invokestatic 44, 3) := by decide +kernel
theorem dX10_comes_122 : decode cX10_comes 122 = .ok (.lconst 1, 1) := by decide +kernel
theorem dX10_comes_123 : decode cX10_comes 123 = .ok (.invokevirtual 76, 3) := by decide +kernel
theorem dX10_comes_126 : decode cX10_comes 126 = .ok (.aload_n 0, 1) := by decide +kernel
theorem dX10_comes_127 : decode cX10_comes 127 = .ok (.iload_n 2, 1) := by decide +kernel
theorem dX10_comes_128 : decode cX10_comes 128 = .ok (.bipush 6, 2) := by decide +kernel
theorem dX10_comes_130 : decode cX10_comes 130 = .ok (.invokestatic 44, 3) := by decide +kernel
theorem dX10_comes_133 : decode cX10_comes 133 = .ok (.lconst 1, 1) := by decide +kernel
theorem dX10_comes_134 : decode cX10_comes 134 = .ok (.invokevirtual 76, 3) := by decide +kernel
theorem dX10_comes_137 : decode cX10_comes 137 = .ok (.aload_n 0, 1) := by decide +kernel
theorem dX10_comes_138 : decode cX10_comes 138 = .ok (.iload_n 2, 1) := by decide +kernel
theorem dX10_comes_139 : decode cX10_comes 139 = .ok (.bipush 20, 2) := by decide +kernel
theorem dX10_comes_141 : decode cX10_comes 141 = .ok (.iload_n 3, 1) := by decide +kernel
theorem dX10_comes_142 : decode cX10_comes 142 = .ok (.iadd, 1) := by decide +kernel
theorem dX10_comes_143 : decode cX10_comes 143 = .ok (.invokestatic 44, 3) := by decide +kernel
theorem dX10_comes_146 : decode cX10_comes 146 = .ok (.lconst 1, 1) := by decide +kernel
theorem dX10_comes_147 : decode cX10_comes 147 = .ok (.invokevirtual 76, 3) := by decide +kernel
theorem dX10_comes_150 : decode cX10_comes 150 = .ok (.aload_n 0, 1) := by decide +kernel
theorem dX10_comes_151 : decode cX10_comes 151 = .ok (.iload_n 2, 1) := by decide +kernel
theorem dX10_comes_152 : decode cX10_comes 152 = .ok (.bipush 18, 2) := by decide +kernel
theorem dX10_comes_154 : decode cX10_comes 154 = .ok (.invokestatic 44, 3) := by decide +kernel
theorem dX10_comes_157 : decode cX10_comes 157 = .ok (.aload_n 0, 1) := by decide +kernel
theorem dX10_comes_158 : decode cX10_comes 158 = .ok (.iload_n 1, 1) := by decide +kernel
theorem dX10_comes_159 : decode cX10_comes 159 = .ok (.invokevirtual 108, 3) := by decide +kernel
theorem dX10_comes_162 : decode cX10_comes 162 = .ok (.invokevirtual 76, 3) := by decide +kernel
theorem dX10_comes_165 : decode cX10_comes 165 = .ok (.aload_n 0, 1) := by decide +kernel
theorem dX10_comes_166 : decode cX10_comes 166 = .ok (.iload_n 2, 1) := by decide +kernel
theorem dX10_comes_167 : decode cX10_comes 167 = .ok (.bipush 26, 2) := by decide +kernel
theorem dX10_comes_169 : decode cX10_comes 169 = .ok (.iload_n 3, 1) := by decide +kernel
theorem dX10_comes_170 : decode cX10_comes 170 = .ok (.iadd, 1) := by decide +kernel
theorem dX10_comes_171 : decode cX10_comes 171 = .ok (.invokestatic 44, 3) := by decide +kernel
theorem dX10_comes_174 : decode cX10_comes 174 = .ok (.aload_n 0, 1) := by decide +kernel
theorem dX10_comes_175 : decode cX10_comes 175 = .ok (.iload_n 1, 1) := by decide +kernel
theorem dX10_comes_176 : decode cX10_comes 176 = .ok (.iconst 3, 1) := by decide +kernel
theorem dX10_comes_177 : decode cX10_comes 177 = .ok (.invokestatic 55, 3) := by decide +kernel
theorem dX10_comes_180 : decode cX10_comes 180 = .ok (.invokevirtual 48, 3) := by decide +kernel
theorem dX10_comes_183 : decode cX10_comes 183 = .ok (.invokevirtual 40, 3) := by decide +kernel
theorem dX10_comes_186 : decode cX10_comes 186 = .ok (.aload_n 0, 1) := by decide +kernel
theorem dX10_comes_187 : decode cX10_comes 187 = .ok (.iload_n 2, 1) := by decide +kernel
theorem dX10_comes_188 : decode cX10_comes 188 = .ok (.bipush 32, 2) := by decide +kernel
theorem dX10_comes_190 : decode cX10_comes 190 = .ok (.iload_n 3, 1) := by decide +kernel
theorem dX10_comes_191 : decode cX10_comes 191 = .ok (.iadd, 1) := by decide +kernel
theorem dX10_comes_192 : decode cX10_comes 192 = .ok (.invokestatic 44, 3) := by decide +kernel
theorem dX10_comes_195 : decode cX10_comes 195 = .ok (.aload_n 0, 1) := by decide +kernel
theorem dX10_comes_196 : decode cX10_comes 196 = .ok (.iload_n 1, 1) := by decide +kernel
theorem dX10_comes_197 : decode cX10_comes 197 = .ok (.iconst 4, 1) := by decide +kernel
theorem dX10_comes_198 : decode cX10_comes 198 = .ok (.invokestatic 55, 3) := by decide +kernel
theorem dX10_comes_201 : decode cX10_comes 201 = .ok (.invokevirtual 48, 3) := by decide +kernel
theorem dX10_comes_204 : decode cX10_comes 204 = .ok (.invokevirtual 40, 3) := by decide +kernel
theorem dX10_comes_207 : decode cX10_comes 207 = .ok (.return_, 1) := by decide +kernel
theorem dX10_returns_0 : decode cX10_returns 0 = .ok (.aload_n 0, 1) := by decide +kernel
theorem dX10_returns_1 : decode cX10_returns 1 = .ok (.iload_n 1, 1) := by decide +kernel
theorem dX10_returns_2 : decode cX10_returns 2 = .ok (.invokevirtual 79, 3) := by decide +kernel
theorem dX10_returns_5 : decode cX10_returns 5 = .ok (.istore_n 2, 1) := by decide +kernel
theorem dX10_returns_6 : decode cX10_returns 6 = .ok (.aload_n 0, 1) := by decide +kernel
theorem dX10_returns_7 : decode cX10_returns 7 = .ok (.iload_n 2, 1) := by decide +kernel
theorem dX10_returns_8 : decode cX10_returns 8 = .ok (.iconst 5, 1) := by decide +kernel
theorem dX10_returns_9 : decode cX10_returns 9 = .ok (.invokevirtual 62, 3) := by decide +kernel
theorem dX10_returns_12 : decode cX10_returns 12 = .ok (.lstore_n 3, 1) := by decide +kernel
theorem dX10_returns_13 : decode cX10_returns 13 = .ok (.aload_n 0, 1) := by decide +kernel
theorem dX10_returns_14 : decode cX10_returns 14 = .ok (.iload_n 2, 1) := by decide +kernel
theorem dX10_returns_15 : decode cX10_returns 15 = .ok (.bipush 6, 2) := by decide +kernel
theorem dX10_returns_17 : decode cX10_returns 17 = .ok (.invokestatic 52, 3) := by decide +kernel
theorem dX10_returns_20 : decode cX10_returns 20 = .ok (.ldc2_w 74, 3) := by decide +kernel
theorem dX10_returns_23 : decode cX10_returns 23 = .ok (.invokevirtual 76, 3) := by decide +kernel
theorem dX10_returns_26 : decode cX10_returns 26 = .ok (.aload_n 0, 1) := by decide +kernel
theorem dX10_returns_27 : decode cX10_returns 27 = .ok (.iload_n 2, 1) := by decide +kernel
theorem dX10_returns_28 : decode cX10_returns 28 = .ok (.bipush 7, 2) := by decide +kernel
theorem dX10_returns_30 : decode cX10_returns 30 = .ok (.invokestatic 52, 3) := by decide +kernel
theorem dX10_returns_33 : decode cX10_returns 33 = .ok (.aload_n 0, 1) := by decide +kernel
theorem dX10_returns_34 : decode cX10_returns 34 = .ok (.iconst 2, 1) := by decide +kernel
theorem dX10_returns_35 : decode cX10_returns 35 = .ok (.invokevirtual 48, 3) := by decide +kernel
theorem dX10_returns_38 : decode cX10_returns 38 = .ok (.aload_n 0, 1) := by decide +kernel
theorem dX10_returns_39 : decode cX10_returns 39 = .ok (.iload_n 1, 1) := by decide +kernel
theorem dX10_returns_40 : decode cX10_returns 40 = .ok (.iconst 1, 1) := by decide +kernel
theorem dX10_returns_41 : decode cX10_returns 41 = .ok (.invokestatic 55, 3) := by decide +kernel
theorem dX10_returns_44 : decode cX10_returns 44 = .ok (.invokevirtual 48, 3) := by decide +kernel
theorem dX10_returns_47 : decode cX10_returns 47 = .ok (.lsub, 1) := by decide +kernel
theorem dX10_returns_48 : decode cX10_returns 48 = .ok (.invokevirtual 40, 3) := by decide +kernel
theorem dX10_returns_51 : decode cX10_returns 51 = .ok (.aload_n 0, 1) := by decide +kernel
theorem dX10_returns_52 : decode cX10_returns 52 = .ok (.iload_n 1, 1) := by decide +kernel
theorem dX10_returns_53 : decode cX10_returns 53 = .ok (.bipush 7, 2) := by decide +kernel
theorem dX10_returns_55 : decode cX10_returns 55 = .ok (.invokestatic 55, 3) := by decide +kernel
theorem dX10_returns_58 : decode cX10_returns 58 = .ok (.invokevirtual 48, 3) := by decide +kernel
theorem dX10_returns_61 : decode cX10_returns 61 = .ok (.lconst 1, 1) := by decide +kernel
theorem dX10_returns_62 : decode cX10_returns 62 = .ok (.lcmp, 1) := by decide +kernel
theorem dX10_returns_63 : decode cX10_returns 63 = .ok (.ifCond .ne 46, 3) := by decide +kernel
theorem dX10_returns_66 : decode cX10_returns 66 = .ok (.aload_n 0, 1) := by decide +kernel
theorem dX10_returns_67 : decode cX10_returns 67 = .ok (.iload_n 2, 1) := by decide +kernel
theorem dX10_returns_68 : decode cX10_returns 68 = .ok (.bipush 10, 2) := by decide +kernel
theorem dX10_returns_70 : decode cX10_returns 70 = .ok (.invokestatic 52, 3) := by decide +kernel
theorem dX10_returns_73 : decode cX10_returns 73 = .ok (.lconst 1, 1) := by decide +kernel
theorem dX10_returns_74 : decode cX10_returns 74 = .ok (.invokevirtual 76, 3) := by decide +kernel
theorem dX10_returns_77 : decode cX10_returns 77 = .ok (.aload_n 0, 1) := by decide +kernel
theorem dX10_returns_78 : decode cX10_returns 78 = .ok (.iload_n 2, 1) := by decide +kernel
theorem dX10_returns_79 : decode cX10_returns 79 = .ok (.iconst 1, 1) := by decide +kernel
theorem dX10_returns_80 : decode cX10_returns 80 = .ok (.invokestatic 52, 3) := by decide +kernel
theorem dX10_returns_83 : decode cX10_returns 83 = .ok (.ldc2_w 111, 3) := by decide +kernel
theorem dX10_returns_86 : decode cX10_returns 86 = .ok (.aload_n 0, 1) := by decide +kernel
theorem dX10_returns_87 : decode cX10_returns 87 = .ok (.iload_n 2, 1) := by decide +kernel
theorem dX10_returns_88 : decode cX10_returns 88 = .ok (.iconst 1, 1) := by decide +kernel
theorem dX10_returns_89 : decode cX10_returns 89 = .ok (.invokevirtual 62, 3) := by decide +kernel
theorem dX10_returns_92 : decode cX10_returns 92 = .ok (.lconst 1, 1) := by decide +kernel
theorem dX10_returns_93 : decode cX10_returns 93 = .ok (.ladd, 1) := by decide +kernel
theorem dX10_returns_94 : decode cX10_returns 94 = .ok (.invokestatic 113, 3) := by decide +kernel
theorem dX10_returns_97 : decode cX10_returns 97 = .ok (.invokevirtual 40, 3) := by decide +kernel
theorem dX10_returns_100 : decode cX10_returns 100 = .ok (.lload_n 3, 1) := by decide +kernel
theorem dX10_returns_101 : decode cX10_returns 101 = .ok (.ldc2_w 116, 3) := by decide +kernel
theorem dX10_returns_104 : decode cX10_returns 104 = .ok (.ldiv, 1) := by decide +kernel
theorem dX10_returns_105 : decode cX10_returns 105 = .ok (.lstore_n 3, 1) := by decide +kernel
theorem dX10_returns_106 : decode cX10_returns 106 = .ok (.goto 97, 3) := by decide +kernel
theorem dX10_returns_109 : decode cX10_returns 109 = .ok (.aload_n 0, 1) := by decide +kernel
theorem dX10_returns_110 : decode cX10_returns 110 = .ok (.getfield 118, 3) := by decide +kernel
theorem dX10_returns_113 : decode cX10_returns 113 = .ok (.ifCond .eq 11, 3) := by decide +kernel
theorem dX10_returns_116 : decode cX10_returns 116 = .ok (.ldc2_w 85, 3) := by decide +kernel
theorem dX10_returns_119 : decode cX10_returns 119 = .ok (.lload_n 3, 1) := by decide +kernel
theorem dX10_returns_120 : decode cX10_returns 120 = .ok (.ldiv, 1) := by decide +kernel
theorem dX10_returns_121 : decode cX10_returns 121 = .ok (.goto 12, 3) := by decide +kernel
theorem dX10_returns_124 : decode cX10_returns 124 = .ok (.aload_n 0, 1) := by decide +kernel
theorem dX10_returns_125 : decode cX10_returns 125 = .ok (.iload_n 1, 1) := by decide +kernel
theorem dX10_returns_126 : decode cX10_returns 126 = .ok (.iconst 5, 1) := by decide +kernel
theorem dX10_returns_127 : decode cX10_returns 127 = .ok (.invokestatic 55, 3) := by decide +kernel
theorem dX10_returns_130 : decode cX10_returns 130 = .ok (.invokevirtual 48, 3) := by decide +kernel
theorem dX10_returns_133 : decode cX10_returns 133 = .ok (.lstore 5, 2) := by decide +kernel
theorem dX10_returns_135 : decode cX10_returns 135 = .ok (.aload_n 0, 1) := by decide +kernel
theorem dX10_returns_136 : decode cX10_returns 136 = .ok (.iload_n 2, 1) := by decide +kernel
theorem dX10_returns_137 : decode cX10_returns 137 = .ok (.bipush 9, 2) := by decide +kernel
theorem dX10_returns_139 : decode cX10_returns 139 = .ok (.invokestatic 52, 3) := by decide +kernel
theorem dX10_returns_142 : decode cX10_returns 142 = .ok (.lconst 1, 1) := by decide +kernel
theorem dX10_returns_143 : decode cX10_returns 143 = .ok (.invokevirtual 76, 3) := by decide +kernel
theorem dX10_returns_146 : decode cX10_returns 146 = .ok (.lload_n 3, 1) := by decide +kernel
theorem dX10_returns_147 : decode cX10_returns 147 = .ok (.aload_n 0, 1) := by decide +kernel
theorem dX10_returns_148 : decode cX10_returns 148 = .ok (.iload_n 2, 1) := by decide +kernel
theorem dX10_returns_149 : decode cX10_returns 149 = .ok (.iconst 2, 1) := by decide +kernel
theorem dX10_returns_150 : decode cX10_returns 150 = .ok (.invokevirtual 62, 3) := by decide +kernel
theorem dX10_returns_153 : decode cX10_returns 153 = .ok (.lconst 1, 1) := by decide +kernel
theorem dX10_returns_154 : decode cX10_returns 154 = .ok (.lcmp, 1) := by decide +kernel
theorem dX10_returns_155 : decode cX10_returns 155 = .ok (.ifCond .ne 14, 3) := by decide +kernel
theorem dX10_returns_158 : decode cX10_returns 158 = .ok (.lload 5, 2) := by decide +kernel
theorem dX10_returns_160 : decode cX10_returns 160 = .ok (.lconst 0, 1) := by decide +kernel
theorem dX10_returns_161 : decode cX10_returns 161 = .ok (.lcmp, 1) := by decide +kernel
theorem dX10_returns_162 : decode cX10_returns 162 = .ok (.ifCond .ge 7, 3) := by decide +kernel
theorem dX10_returns_165 : decode cX10_returns 165 = .ok (.lconst 0, 1) := by decide +kernel
theorem dX10_returns_166 : decode cX10_returns 166 = .ok (.goto 5, 3) := by decide +kernel
theorem dX10_returns_169 : decode cX10_returns 169 = .ok (.lload 5, 2) := by decide +kernel
theorem dX10_returns_171 : decode cX10_returns 171 = .ok (.ladd, 1) := by decide +kernel
theorem dX10_returns_172 : decode cX10_returns 172 = .ok (.lstore_n 3, 1) := by decide +kernel
theorem dX10_returns_173 : decode cX10_returns 173 = .ok (.aload_n 0, 1) := by decide +kernel
theorem dX10_returns_174 : decode cX10_returns 174 = .ok (.iload_n 2, 1) := by decide +kernel
theorem dX10_returns_175 : decode cX10_returns 175 = .ok (.iconst 1, 1) := by decide +kernel
theorem dX10_returns_176 : decode cX10_returns 176 = .ok (.invokevirtual 62, 3) := by decide +kernel
theorem dX10_returns_179 : decode cX10_returns 179 = .ok (.lconst 0, 1) := by decide +kernel
theorem dX10_returns_180 : decode cX10_returns 180 = .ok (.lcmp, 1) := by decide +kernel
theorem dX10_returns_181 : decode cX10_returns 181 = .ok (.ifCond .ne 22, 3) := by decide +kernel
theorem dX10_returns_184 : decode cX10_returns 184 = .ok (.aload_n 0, 1) := by decide +kernel
theorem dX10_returns_185 : decode cX10_returns 185 = .ok (.iload_n 2, 1) := by decide +kernel
theorem dX10_returns_186 : decode cX10_returns 186 = .ok (.bipush 6, 2) := by decide +kernel
theorem dX10_returns_188 : decode cX10_returns 188 = .ok (.invokevirtual 62, 3) := by decide +kernel
theorem dX10_returns_191 : decode cX10_returns 191 = .ok (.lconst 0, 1) := by decide +kernel
theorem dX10_returns_192 : decode cX10_returns 192 = .ok (.lcmp, 1) := by decide +kernel
theorem dX10_returns_193 : decode cX10_returns 193 = .ok (.ifCond .ne 10, 3) := by decide +kernel
theorem dX10_returns_196 : decode cX10_returns 196 = .ok (.aload_n 0, 1) := by decide +kernel
theorem dX10_returns_197 : decode cX10_returns 197 = .ok (.iconst 4, 1) := by decide +kernel
theorem dX10_returns_198 : decode cX10_returns 198 = .ok (.iconst (-1), 1) := by decide +kernel
theorem dX10_returns_199 : decode cX10_returns 199 = .ok (.iload_n 2, 1) := by decide +kernel
theorem dX10_returns_200 : decode cX10_returns 200 = .ok (.invokevirtual 100, 3) := by decide +kernel
theorem dX10_returns_203 : decode cX10_returns 203 = .ok (.aload_n 0, 1) := by decide +kernel
theorem dX10_returns_204 : decode cX10_returns 204 = .ok (.iload_n 2, 1) := by decide +kernel
theorem dX10_returns_205 : decode cX10_returns 205 = .ok (.iconst 5, 1) := by decide +kernel
theorem dX10_returns_206 : decode cX10_returns 206 = .ok (.invokestatic 52, 3) := by decide +kernel
theorem dX10_returns_209 : decode cX10_returns 209 = .ok (.ldc2_w 122, 3) := by decide +kernel
theorem dX10_returns_212 : decode cX10_returns 212 = .ok (.ldc2_w 124, 3) := by decide +kernel
theorem dX10_returns_215 : decode cX10_returns 215 = .ok (.lload_n 3, 1) := by decide +kernel
theorem dX10_returns_216 : decode cX10_returns 216 = .ok (.invokestatic 113, 3) := by decide +kernel
theorem dX10_returns_219 : decode cX10_returns 219 = .ok (.invokestatic 87, 3) := by decide +kernel
theorem dX10_returns_222 : decode cX10_returns 222 = .ok (.invokevirtual 40, 3) := by decide +kernel
theorem dX10_returns_225 : decode cX10_returns 225 = .ok (.aload_n 0, 1) := by decide +kernel
theorem dX10_returns_226 : decode cX10_returns 226 = .ok (.iload_n 1, 1) := by decide +kernel
theorem dX10_returns_227 : decode cX10_returns 227 = .ok (.iconst 0, 1) := by decide +kernel
theorem dX10_returns_228 : decode cX10_returns 228 = .ok (.invokestatic 55, 3) := by decide +kernel
theorem dX10_returns_231 : decode cX10_returns 231 = .ok (.lconst 0, 1) := by decide +kernel
theorem dX10_returns_232 : decode cX10_returns 232 = .ok (.invokevirtual 40, 3) := by decide +kernel
theorem dX10_returns_235 : decode cX10_returns 235 = .ok (.return_, 1) := by decide +kernel
theorem dX10_allReturn_0 : decode cX10_allReturn 0 = .ok (.iconst 0, 1) := by decide +kernel
theorem dX10_allReturn_1 : decode cX10_allReturn 1 = .ok (.istore_n 1, 1) := by decide +kernel
theorem dX10_allReturn_2 : decode cX10_allReturn 2 = .ok (.aload_n 0, 1) := by decide +kernel
theorem dX10_allReturn_3 : decode cX10_allReturn 3 = .ok (.iconst 5, 1) := by decide +kernel
theorem dX10_allReturn_4 : decode cX10_allReturn 4 = .ok (.invokevirtual 58, 3) := by decide +kernel
theorem dX10_allReturn_7 : decode cX10_allReturn 7 = .ok (.istore_n 2, 1) := by decide +kernel
theorem dX10_allReturn_8 : decode cX10_allReturn 8 = .ok (.iconst 0, 1) := by decide +kernel
theorem dX10_allReturn_9 : decode cX10_allReturn 9 = .ok (.istore_n 3, 1) := by decide +kernel
theorem dX10_allReturn_10 : decode cX10_allReturn 10 = .ok (.iload_n 3, 1) := by decide +kernel
theorem dX10_allReturn_11 : decode cX10_allReturn 11 = .ok (.iload_n 2, 1) := by decide +kernel
theorem dX10_allReturn_12 : decode cX10_allReturn 12 = .ok (.if_icmp .ge 64, 3) := by decide +kernel
theorem dX10_allReturn_15 : decode cX10_allReturn 15 = .ok (.aload_n 0, 1) := by decide +kernel
theorem dX10_allReturn_16 : decode cX10_allReturn 16 = .ok (.sipush 5108, 3) := by decide +kernel
theorem dX10_allReturn_19 : decode cX10_allReturn 19 = .ok (.iload_n 3, 1) := by decide +kernel
theorem dX10_allReturn_20 : decode cX10_allReturn 20 = .ok (.iadd, 1) := by decide +kernel
theorem dX10_allReturn_21 : decode cX10_allReturn 21 = .ok (.invokevirtual 58, 3) := by decide +kernel
theorem dX10_allReturn_24 : decode cX10_allReturn 24 = .ok (.istore 4, 2) := by decide +kernel
theorem dX10_allReturn_26 : decode cX10_allReturn 26 = .ok (.aload_n 0, 1) := by decide +kernel
theorem dX10_allReturn_27 : decode cX10_allReturn 27 = .ok (.iload 4, 2) := by decide +kernel
theorem dX10_allReturn_29 : decode cX10_allReturn 29 = .ok (.bipush 6, 2) := by decide +kernel
theorem dX10_allReturn_31 : decode cX10_allReturn 31 = .ok (.invokestatic 55, 3) := by decide +kernel
theorem dX10_allReturn_34 : decode cX10_allReturn 34 = .ok (.invokevirtual 48, 3) := by decide +kernel
theorem dX10_allReturn_37 : decode cX10_allReturn 37 = .ok (.aload_n 0, 1) := by decide +kernel
theorem dX10_allReturn_38 : decode cX10_allReturn 38 = .ok (.iconst 2, 1) := by decide +kernel
theorem dX10_allReturn_39 : decode cX10_allReturn 39 = .ok (.invokevirtual 48, 3) := by decide +kernel
theorem dX10_allReturn_42 : decode cX10_allReturn 42 = .ok (.lcmp, 1) := by decide +kernel
theorem dX10_allReturn_43 : decode cX10_allReturn 43 = .ok (.ifCond .ne 12, 3) := by decide +kernel
theorem dX10_allReturn_46 : decode cX10_allReturn 46 = .ok (.aload_n 0, 1) := by decide +kernel
theorem dX10_allReturn_47 : decode cX10_allReturn 47 = .ok (.iload 4, 2) := by decide +kernel
theorem dX10_allReturn_49 : decode cX10_allReturn 49 = .ok (.invokevirtual 126, 3) := by decide +kernel
theorem dX10_allReturn_52 : decode cX10_allReturn 52 = .ok (.goto 18, 3) := by decide +kernel
theorem dX10_allReturn_55 : decode cX10_allReturn 55 = .ok (.aload_n 0, 1) := by decide +kernel
theorem dX10_allReturn_56 : decode cX10_allReturn 56 = .ok (.sipush 5108, 3) := by decide +kernel
theorem dX10_allReturn_59 : decode cX10_allReturn 59 = .ok (.iload_n 1, 1) := by decide +kernel
theorem dX10_allReturn_60 : decode cX10_allReturn 60 = .ok (.iadd, 1) := by decide +kernel
theorem dX10_allReturn_61 : decode cX10_allReturn 61 = .ok (.iload 4, 2) := by decide +kernel
theorem dX10_allReturn_63 : decode cX10_allReturn 63 = .ok (.i2l, 1) := by decide +kernel
theorem dX10_allReturn_64 : decode cX10_allReturn 64 = .ok (.invokevirtual 40, 3) := by decide +kernel
theorem dX10_allReturn_67 : decode cX10_allReturn 67 = .ok (.iinc 1 1, 3) := by decide +kernel
theorem dX10_allReturn_70 : decode cX10_allReturn 70 = .ok (.iinc 3 1, 3) := by decide +kernel
theorem dX10_allReturn_73 : decode cX10_allReturn 73 = .ok (.goto (-63), 3) := by decide +kernel
theorem dX10_allReturn_76 : decode cX10_allReturn 76 = .ok (.aload_n 0, 1) := by decide +kernel
theorem dX10_allReturn_77 : decode cX10_allReturn 77 = .ok (.iconst 5, 1) := by decide +kernel
theorem dX10_allReturn_78 : decode cX10_allReturn 78 = .ok (.iload_n 1, 1) := by decide +kernel
theorem dX10_allReturn_79 : decode cX10_allReturn 79 = .ok (.i2l, 1) := by decide +kernel
theorem dX10_allReturn_80 : decode cX10_allReturn 80 = .ok (.invokevirtual 40, 3) := by decide +kernel
theorem dX10_allReturn_83 : decode cX10_allReturn 83 = .ok (.return_, 1) := by decide +kernel
theorem dX10_arrives_0 : decode cX10_arrives 0 = .ok (.iconst 0, 1) := by decide +kernel
theorem dX10_arrives_1 : decode cX10_arrives 1 = .ok (.istore_n 2, 1) := by decide +kernel
theorem dX10_arrives_2 : decode cX10_arrives 2 = .ok (.aload_n 0, 1) := by decide +kernel
theorem dX10_arrives_3 : decode cX10_arrives 3 = .ok (.iload_n 1, 1) := by decide +kernel
theorem dX10_arrives_4 : decode cX10_arrives 4 = .ok (.iconst 5, 1) := by decide +kernel
theorem dX10_arrives_5 : decode cX10_arrives 5 = .ok (.invokestatic 44, 3) := by decide +kernel
theorem dX10_arrives_8 : decode cX10_arrives 8 = .ok (.invokevirtual 58, 3) := by decide +kernel
theorem dX10_arrives_11 : decode cX10_arrives 11 = .ok (.istore_n 3, 1) := by decide +kernel
theorem dX10_arrives_12 : decode cX10_arrives 12 = .ok (.iconst 0, 1) := by decide +kernel
theorem dX10_arrives_13 : decode cX10_arrives 13 = .ok (.istore 4, 2) := by decide +kernel
theorem dX10_arrives_15 : decode cX10_arrives 15 = .ok (.iload 4, 2) := by decide +kernel
theorem dX10_arrives_17 : decode cX10_arrives 17 = .ok (.iload_n 3, 1) := by decide +kernel
theorem dX10_arrives_18 : decode cX10_arrives 18 = .ok (.if_icmp .ge 141, 3) := by decide +kernel
theorem dX10_arrives_21 : decode cX10_arrives 21 = .ok (.aload_n 0, 1) := by decide +kernel
theorem dX10_arrives_22 : decode cX10_arrives 22 = .ok (.sipush 4568, 3) := by decide +kernel
theorem dX10_arrives_25 : decode cX10_arrives 25 = .ok (.bipush 90, 2) := by decide +kernel
theorem dX10_arrives_27 : decode cX10_arrives 27 = .ok (.iload_n 1, 1) := by decide +kernel
theorem dX10_arrives_28 : decode cX10_arrives 28 = .ok (.imul, 1) := by decide +kernel
theorem dX10_arrives_29 : decode cX10_arrives 29 = .ok (.iadd, 1) := by decide +kernel
theorem dX10_arrives_30 : decode cX10_arrives 30 = .ok (.iload 4, 2) := by decide +kernel
theorem dX10_arrives_32 : decode cX10_arrives 32 = .ok (.iadd, 1) := by decide +kernel
theorem dX10_arrives_33 : decode cX10_arrives 33 = .ok (.invokevirtual 58, 3) := by decide +kernel
theorem dX10_arrives_36 : decode cX10_arrives 36 = .ok (.istore 5, 2) := by decide +kernel
theorem dX10_arrives_38 : decode cX10_arrives 38 = .ok (.aload_n 0, 1) := by decide +kernel
theorem dX10_arrives_39 : decode cX10_arrives 39 = .ok (.iload 5, 2) := by decide +kernel
theorem dX10_arrives_41 : decode cX10_arrives 41 = .ok (.bipush 6, 2) := by decide +kernel
theorem dX10_arrives_43 : decode cX10_arrives 43 = .ok (.invokestatic 55, 3) := by decide +kernel
theorem dX10_arrives_46 : decode cX10_arrives 46 = .ok (.invokevirtual 48, 3) := by decide +kernel
theorem dX10_arrives_49 : decode cX10_arrives 49 = .ok (.aload_n 0, 1) := by decide +kernel
theorem dX10_arrives_50 : decode cX10_arrives 50 = .ok (.iconst 2, 1) := by decide +kernel
theorem dX10_arrives_51 : decode cX10_arrives 51 = .ok (.invokevirtual 48, 3) := by decide +kernel
theorem dX10_arrives_54 : decode cX10_arrives 54 = .ok (.lcmp, 1) := by decide +kernel
theorem dX10_arrives_55 : decode cX10_arrives 55 = .ok (.ifCond .eq 26, 3) := by decide +kernel
theorem dX10_arrives_58 : decode cX10_arrives 58 = .ok (.aload_n 0, 1) := by decide +kernel
theorem dX10_arrives_59 : decode cX10_arrives 59 = .ok (.sipush 4568, 3) := by decide +kernel
theorem dX10_arrives_62 : decode cX10_arrives 62 = .ok (.bipush 90, 2) := by decide +kernel
theorem dX10_arrives_64 : decode cX10_arrives 64 = .ok (.iload_n 1, 1) := by decide +kernel
theorem dX10_arrives_65 : decode cX10_arrives 65 = .ok (.imul, 1) := by decide +kernel
theorem dX10_arrives_66 : decode cX10_arrives 66 = .ok (.iadd, 1) := by decide +kernel
theorem dX10_arrives_67 : decode cX10_arrives 67 = .ok (.iload_n 2, 1) := by decide +kernel
theorem dX10_arrives_68 : decode cX10_arrives 68 = .ok (.iadd, 1) := by decide +kernel
theorem dX10_arrives_69 : decode cX10_arrives 69 = .ok (.iload 5, 2) := by decide +kernel
theorem dX10_arrives_71 : decode cX10_arrives 71 = .ok (.i2l, 1) := by decide +kernel
theorem dX10_arrives_72 : decode cX10_arrives 72 = .ok (.invokevirtual 40, 3) := by decide +kernel
theorem dX10_arrives_75 : decode cX10_arrives 75 = .ok (.iinc 2 1, 3) := by decide +kernel
theorem dX10_arrives_78 : decode cX10_arrives 78 = .ok (.goto 75, 3) := by decide +kernel
theorem dX10_arrives_81 : decode cX10_arrives 81 = .ok (.aload_n 0, 1) := by decide +kernel
theorem dX10_arrives_82 : decode cX10_arrives 82 = .ok (.iload 5, 2) := by decide +kernel
theorem dX10_arrives_84 : decode cX10_arrives 84 = .ok (.invokevirtual 79, 3) := by decide +kernel
theorem dX10_arrives_87 : decode cX10_arrives 87 = .ok (.istore 6, 2) := by decide +kernel
theorem dX10_arrives_89 : decode cX10_arrives 89 = .ok (.aload_n 0, 1) := by decide +kernel
theorem dX10_arrives_90 : decode cX10_arrives 90 = .ok (.iload 5, 2) := by decide +kernel
theorem dX10_arrives_92 : decode cX10_arrives 92 = .ok (.iconst 2, 1) := by decide +kernel
theorem dX10_arrives_93 : decode cX10_arrives 93 = .ok (.invokestatic 55, 3) := by decide +kernel
theorem dX10_arrives_96 : decode cX10_arrives 96 = .ok (.lconst 1, 1) := by decide +kernel
theorem dX10_arrives_97 : decode cX10_arrives 97 = .ok (.invokevirtual 76, 3) := by decide +kernel
theorem dX10_arrives_100 : decode cX10_arrives 100 = .ok (.aload_n 0, 1) := by decide +kernel
theorem dX10_arrives_101 : decode cX10_arrives 101 = .ok (.iload 5, 2) := by decide +kernel
theorem dX10_arrives_103 : decode cX10_arrives 103 = .ok (.iconst 2, 1) := by decide +kernel
theorem dX10_arrives_104 : decode cX10_arrives 104 = .ok (.invokestatic 55, 3) := by decide +kernel
theorem dX10_arrives_107 : decode cX10_arrives 107 = .ok (.invokevirtual 48, 3) := by decide +kernel
theorem dX10_arrives_110 : decode cX10_arrives 110 = .ok (.aload_n 0, 1) := by decide +kernel
theorem dX10_arrives_111 : decode cX10_arrives 111 = .ok (.iload 6, 2) := by decide +kernel
theorem dX10_arrives_113 : decode cX10_arrives 113 = .ok (.iconst 0, 1) := by decide +kernel
theorem dX10_arrives_114 : decode cX10_arrives 114 = .ok (.invokevirtual 62, 3) := by decide +kernel
theorem dX10_arrives_117 : decode cX10_arrives 117 = .ok (.lcmp, 1) := by decide +kernel
theorem dX10_arrives_118 : decode cX10_arrives 118 = .ok (.ifCond .ne 13, 3) := by decide +kernel
theorem dX10_arrives_121 : decode cX10_arrives 121 = .ok (.aload_n 0, 1) := by decide +kernel
theorem dX10_arrives_122 : decode cX10_arrives 122 = .ok (.iload 5, 2) := by decide +kernel
theorem dX10_arrives_124 : decode cX10_arrives 124 = .ok (.iconst 0, 1) := by decide +kernel
theorem dX10_arrives_125 : decode cX10_arrives 125 = .ok (.invokevirtual 104, 3) := by decide +kernel
theorem dX10_arrives_128 : decode cX10_arrives 128 = .ok (.goto 25, 3) := by decide +kernel
theorem dX10_arrives_131 : decode cX10_arrives 131 = .ok (.aload_n 0, 1) := by decide +kernel
theorem dX10_arrives_132 : decode cX10_arrives 132 = .ok (.iload 5, 2) := by decide +kernel
theorem dX10_arrives_134 : decode cX10_arrives 134 = .ok (.aload_n 0, 1) := by decide +kernel
theorem dX10_arrives_135 : decode cX10_arrives 135 = .ok (.iload 6, 2) := by decide +kernel
theorem dX10_arrives_137 : decode cX10_arrives 137 = .ok (.aload_n 0, 1) := by decide +kernel
theorem dX10_arrives_138 : decode cX10_arrives 138 = .ok (.iload 5, 2) := by decide +kernel
theorem dX10_arrives_140 : decode cX10_arrives 140 = .ok (.iconst 2, 1) := by decide +kernel
theorem dX10_arrives_141 : decode cX10_arrives 141 = .ok (.invokestatic 55, 3) := by decide +kernel
theorem dX10_arrives_144 : decode cX10_arrives 144 = .ok (.invokevirtual 58, 3) := by decide +kernel
theorem dX10_arrives_147 : decode cX10_arrives 147 = .ok (.invokevirtual 66, 3) := by decide +kernel
theorem dX10_arrives_150 : decode cX10_arrives 150 = .ok (.invokevirtual 130, 3) := by decide +kernel
theorem dX10_arrives_153 : decode cX10_arrives 153 = .ok (.iinc 4 1, 3) := by decide +kernel
theorem dX10_arrives_156 : decode cX10_arrives 156 = .ok (.goto (-141), 3) := by decide +kernel
theorem dX10_arrives_159 : decode cX10_arrives 159 = .ok (.aload_n 0, 1) := by decide +kernel
theorem dX10_arrives_160 : decode cX10_arrives 160 = .ok (.iload_n 1, 1) := by decide +kernel
theorem dX10_arrives_161 : decode cX10_arrives 161 = .ok (.iconst 5, 1) := by decide +kernel
theorem dX10_arrives_162 : decode cX10_arrives 162 = .ok (.invokestatic 44, 3) := by decide +kernel
theorem dX10_arrives_165 : decode cX10_arrives 165 = .ok (.iload_n 2, 1) := by decide +kernel
theorem dX10_arrives_166 : decode cX10_arrives 166 = .ok (.i2l, 1) := by decide +kernel
theorem dX10_arrives_167 : decode cX10_arrives 167 = .ok (.invokevirtual 40, 3) := by decide +kernel
theorem dX10_arrives_170 : decode cX10_arrives 170 = .ok (.return_, 1) := by decide +kernel
theorem dX10_maySend_0 : decode cX10_maySend 0 = .ok (.aload_n 0, 1) := by decide +kernel
theorem dX10_maySend_1 : decode cX10_maySend 1 = .ok (.iload_n 1, 1) := by decide +kernel
theorem dX10_maySend_2 : decode cX10_maySend 2 = .ok (.iconst 1, 1) := by decide +kernel
theorem dX10_maySend_3 : decode cX10_maySend 3 = .ok (.invokevirtual 62, 3) := by decide +kernel
theorem dX10_maySend_6 : decode cX10_maySend 6 = .ok (.lconst 0, 1) := by decide +kernel
theorem dX10_maySend_7 : decode cX10_maySend 7 = .ok (.lcmp, 1) := by decide +kernel
theorem dX10_maySend_8 : decode cX10_maySend 8 = .ok (.ifCond .le 51, 3) := by decide +kernel
theorem dX10_maySend_11 : decode cX10_maySend 11 = .ok (.ldc2_w 122, 3) := by decide +kernel
theorem dX10_maySend_14 : decode cX10_maySend 14 = .ok (.aload_n 0, 1) := by decide +kernel
theorem dX10_maySend_15 : decode cX10_maySend 15 = .ok (.iload_n 1, 1) := by decide +kernel
theorem dX10_maySend_16 : decode cX10_maySend 16 = .ok (.bipush 6, 2) := by decide +kernel
theorem dX10_maySend_18 : decode cX10_maySend 18 = .ok (.invokevirtual 62, 3) := by decide +kernel
theorem dX10_maySend_21 : decode cX10_maySend 21 = .ok (.lconst 1, 1) := by decide +kernel
theorem dX10_maySend_22 : decode cX10_maySend 22 = .ok (.ladd, 1) := by decide +kernel
theorem dX10_maySend_23 : decode cX10_maySend 23 = .ok (.lmul, 1) := by decide +kernel
theorem dX10_maySend_24 : decode cX10_maySend 24 = .ok (.aload_n 0, 1) := by decide +kernel
theorem dX10_maySend_25 : decode cX10_maySend 25 = .ok (.iload_n 1, 1) := by decide +kernel
theorem dX10_maySend_26 : decode cX10_maySend 26 = .ok (.iconst 5, 1) := by decide +kernel
theorem dX10_maySend_27 : decode cX10_maySend 27 = .ok (.invokevirtual 62, 3) := by decide +kernel
theorem dX10_maySend_30 : decode cX10_maySend 30 = .ok (.aload_n 0, 1) := by decide +kernel
theorem dX10_maySend_31 : decode cX10_maySend 31 = .ok (.iload_n 1, 1) := by decide +kernel
theorem dX10_maySend_32 : decode cX10_maySend 32 = .ok (.iconst 2, 1) := by decide +kernel
theorem dX10_maySend_33 : decode cX10_maySend 33 = .ok (.invokevirtual 62, 3) := by decide +kernel
theorem dX10_maySend_36 : decode cX10_maySend 36 = .ok (.ldc2_w 134, 3) := by decide +kernel
theorem dX10_maySend_39 : decode cX10_maySend 39 = .ok (.lcmp, 1) := by decide +kernel
theorem dX10_maySend_40 : decode cX10_maySend 40 = .ok (.ifCond .ne 9, 3) := by decide +kernel
theorem dX10_maySend_43 : decode cX10_maySend 43 = .ok (.ldc2_w 116, 3) := by decide +kernel
theorem dX10_maySend_46 : decode cX10_maySend 46 = .ok (.goto 4, 3) := by decide +kernel
theorem dX10_maySend_49 : decode cX10_maySend 49 = .ok (.lconst 1, 1) := by decide +kernel
theorem dX10_maySend_50 : decode cX10_maySend 50 = .ok (.lmul, 1) := by decide +kernel
theorem dX10_maySend_51 : decode cX10_maySend 51 = .ok (.lcmp, 1) := by decide +kernel
theorem dX10_maySend_52 : decode cX10_maySend 52 = .ok (.ifCond .gt 7, 3) := by decide +kernel
theorem dX10_maySend_55 : decode cX10_maySend 55 = .ok (.iconst 1, 1) := by decide +kernel
theorem dX10_maySend_56 : decode cX10_maySend 56 = .ok (.goto 4, 3) := by decide +kernel
theorem dX10_maySend_59 : decode cX10_maySend 59 = .ok (.iconst 0, 1) := by decide +kernel
theorem dX10_maySend_60 : decode cX10_maySend 60 = .ok (.ireturn, 1) := by decide +kernel
theorem dX10_freePlace_0 : decode cX10_freePlace 0 = .ok (.iconst 0, 1) := by decide +kernel
theorem dX10_freePlace_1 : decode cX10_freePlace 1 = .ok (.istore_n 1, 1) := by decide +kernel
theorem dX10_freePlace_2 : decode cX10_freePlace 2 = .ok (.aload_n 0, 1) := by decide +kernel
theorem dX10_freePlace_3 : decode cX10_freePlace 3 = .ok (.iload_n 1, 1) := by decide +kernel
theorem dX10_freePlace_4 : decode cX10_freePlace 4 = .ok (.iconst 0, 1) := by decide +kernel
theorem dX10_freePlace_5 : decode cX10_freePlace 5 = .ok (.invokestatic 55, 3) := by decide +kernel
theorem dX10_freePlace_8 : decode cX10_freePlace 8 = .ok (.invokevirtual 48, 3) := by decide +kernel
theorem dX10_freePlace_11 : decode cX10_freePlace 11 = .ok (.lconst 0, 1) := by decide +kernel
theorem dX10_freePlace_12 : decode cX10_freePlace 12 = .ok (.lcmp, 1) := by decide +kernel
theorem dX10_freePlace_13 : decode cX10_freePlace 13 = .ok (.ifCond .le 9, 3) := by decide +kernel
theorem dX10_freePlace_16 : decode cX10_freePlace 16 = .ok (.iinc 1 1, 3) := by decide +kernel
theorem dX10_freePlace_19 : decode cX10_freePlace 19 = .ok (.goto (-17), 3) := by decide +kernel
theorem dX10_freePlace_22 : decode cX10_freePlace 22 = .ok (.iload_n 1, 1) := by decide +kernel
theorem dX10_freePlace_23 : decode cX10_freePlace 23 = .ok (.ireturn, 1) := by decide +kernel
theorem dX10_sends_0 : decode cX10_sends 0 = .ok (.iconst 0, 1) := by decide +kernel
theorem dX10_sends_1 : decode cX10_sends 1 = .ok (.istore_n 2, 1) := by decide +kernel
theorem dX10_sends_2 : decode cX10_sends 2 = .ok (.iload_n 2, 1) := by decide +kernel
theorem dX10_sends_3 : decode cX10_sends 3 = .ok (.iconst 2, 1) := by decide +kernel
theorem dX10_sends_4 : decode cX10_sends 4 = .ok (.if_icmp .ge 197, 3) := by decide +kernel
theorem dX10_sends_7 : decode cX10_sends 7 = .ok (.aload_n 0, 1) := by decide +kernel
theorem dX10_sends_8 : decode cX10_sends 8 = .ok (.iload_n 1, 1) := by decide +kernel
theorem dX10_sends_9 : decode cX10_sends 9 = .ok (.invokevirtual 136, 3) := by decide +kernel
theorem dX10_sends_12 : decode cX10_sends 12 = .ok (.ifCond .eq 189, 3) := by decide +kernel
theorem dX10_sends_15 : decode cX10_sends 15 = .ok (.aload_n 0, 1) := by decide +kernel
theorem dX10_sends_16 : decode cX10_sends 16 = .ok (.invokevirtual 140, 3) := by decide +kernel
theorem dX10_sends_19 : decode cX10_sends 19 = .ok (.istore_n 3, 1) := by decide +kernel
theorem dX10_sends_20 : decode cX10_sends 20 = .ok (.aload_n 0, 1) := by decide +kernel
theorem dX10_sends_21 : decode cX10_sends 21 = .ok (.iload_n 1, 1) := by decide +kernel
theorem dX10_sends_22 : decode cX10_sends 22 = .ok (.iconst 1, 1) := by decide +kernel
theorem dX10_sends_23 : decode cX10_sends 23 = .ok (.invokestatic 52, 3) := by decide +kernel
theorem dX10_sends_26 : decode cX10_sends 26 = .ok (.ldc2_w 74, 3) := by decide +kernel
theorem dX10_sends_29 : decode cX10_sends 29 = .ok (.invokevirtual 76, 3) := by decide +kernel
theorem dX10_sends_32 : decode cX10_sends 32 = .ok (.aload_n 0, 1) := by decide +kernel
theorem dX10_sends_33 : decode cX10_sends 33 = .ok (.iload_n 1, 1) := by decide +kernel
theorem dX10_sends_34 : decode cX10_sends 34 = .ok (.bipush 8, 2) := by decide +kernel
theorem dX10_sends_36 : decode cX10_sends 36 = .ok (.invokestatic 52, 3) := by decide +kernel
theorem dX10_sends_39 : decode cX10_sends 39 = .ok (.lconst 1, 1) := by decide +kernel
theorem dX10_sends_40 : decode cX10_sends 40 = .ok (.invokevirtual 76, 3) := by decide +kernel
theorem dX10_sends_43 : decode cX10_sends 43 = .ok (.aload_n 0, 1) := by decide +kernel
theorem dX10_sends_44 : decode cX10_sends 44 = .ok (.iload_n 1, 1) := by decide +kernel
theorem dX10_sends_45 : decode cX10_sends 45 = .ok (.bipush 6, 2) := by decide +kernel
theorem dX10_sends_47 : decode cX10_sends 47 = .ok (.invokestatic 52, 3) := by decide +kernel
theorem dX10_sends_50 : decode cX10_sends 50 = .ok (.lconst 1, 1) := by decide +kernel
theorem dX10_sends_51 : decode cX10_sends 51 = .ok (.invokevirtual 76, 3) := by decide +kernel
theorem dX10_sends_54 : decode cX10_sends 54 = .ok (.aload_n 0, 1) := by decide +kernel
theorem dX10_sends_55 : decode cX10_sends 55 = .ok (.iload_n 3, 1) := by decide +kernel
theorem dX10_sends_56 : decode cX10_sends 56 = .ok (.iconst 0, 1) := by decide +kernel
theorem dX10_sends_57 : decode cX10_sends 57 = .ok (.invokestatic 55, 3) := by decide +kernel
theorem dX10_sends_60 : decode cX10_sends 60 = .ok (.iload_n 1, 1) := by decide +kernel
theorem dX10_sends_61 : decode cX10_sends 61 = .ok (.i2l, 1) := by decide +kernel
theorem dX10_sends_62 : decode cX10_sends 62 = .ok (.lconst 1, 1) := by decide +kernel
theorem dX10_sends_63 : decode cX10_sends 63 = .ok (.ladd, 1) := by decide +kernel
theorem dX10_sends_64 : decode cX10_sends 64 = .ok (.invokevirtual 40, 3) := by decide +kernel
theorem dX10_sends_67 : decode cX10_sends 67 = .ok (.aload_n 0, 1) := by decide +kernel
theorem dX10_sends_68 : decode cX10_sends 68 = .ok (.iload_n 3, 1) := by decide +kernel
theorem dX10_sends_69 : decode cX10_sends 69 = .ok (.iconst 1, 1) := by decide +kernel
theorem dX10_sends_70 : decode cX10_sends 70 = .ok (.invokestatic 55, 3) := by decide +kernel
theorem dX10_sends_73 : decode cX10_sends 73 = .ok (.aload_n 0, 1) := by decide +kernel
theorem dX10_sends_74 : decode cX10_sends 74 = .ok (.iconst 2, 1) := by decide +kernel
theorem dX10_sends_75 : decode cX10_sends 75 = .ok (.invokevirtual 48, 3) := by decide +kernel
theorem dX10_sends_78 : decode cX10_sends 78 = .ok (.invokevirtual 40, 3) := by decide +kernel
theorem dX10_sends_81 : decode cX10_sends 81 = .ok (.aload_n 0, 1) := by decide +kernel
theorem dX10_sends_82 : decode cX10_sends 82 = .ok (.iload_n 3, 1) := by decide +kernel
theorem dX10_sends_83 : decode cX10_sends 83 = .ok (.iconst 2, 1) := by decide +kernel
theorem dX10_sends_84 : decode cX10_sends 84 = .ok (.invokestatic 55, 3) := by decide +kernel
theorem dX10_sends_87 : decode cX10_sends 87 = .ok (.lconst 0, 1) := by decide +kernel
theorem dX10_sends_88 : decode cX10_sends 88 = .ok (.invokevirtual 40, 3) := by decide +kernel
theorem dX10_sends_91 : decode cX10_sends 91 = .ok (.aload_n 0, 1) := by decide +kernel
theorem dX10_sends_92 : decode cX10_sends 92 = .ok (.iload_n 3, 1) := by decide +kernel
theorem dX10_sends_93 : decode cX10_sends 93 = .ok (.iconst 3, 1) := by decide +kernel
theorem dX10_sends_94 : decode cX10_sends 94 = .ok (.invokestatic 55, 3) := by decide +kernel
theorem dX10_sends_97 : decode cX10_sends 97 = .ok (.aload_n 0, 1) := by decide +kernel
theorem dX10_sends_98 : decode cX10_sends 98 = .ok (.iload_n 1, 1) := by decide +kernel
theorem dX10_sends_99 : decode cX10_sends 99 = .ok (.iconst 5, 1) := by decide +kernel
theorem dX10_sends_100 : decode cX10_sends 100 = .ok (.invokevirtual 62, 3) := by decide +kernel
theorem dX10_sends_103 : decode cX10_sends 103 = .ok (.invokevirtual 40, 3) := by decide +kernel
theorem dX10_sends_106 : decode cX10_sends 106 = .ok (.aload_n 0, 1) := by decide +kernel
theorem dX10_sends_107 : decode cX10_sends 107 = .ok (.iload_n 3, 1) := by decide +kernel
theorem dX10_sends_108 : decode cX10_sends 108 = .ok (.iconst 4, 1) := by decide +kernel
theorem dX10_sends_109 : decode cX10_sends 109 = .ok (.invokestatic 55, 3) := by decide +kernel
theorem dX10_sends_112 : decode cX10_sends 112 = .ok (.aload_n 0, 1) := by decide +kernel
theorem dX10_sends_113 : decode cX10_sends 113 = .ok (.iload_n 1, 1) := by decide +kernel
theorem dX10_sends_114 : decode cX10_sends 114 = .ok (.bipush 7, 2) := by decide +kernel
theorem dX10_sends_116 : decode cX10_sends 116 = .ok (.invokevirtual 62, 3) := by decide +kernel
theorem dX10_sends_119 : decode cX10_sends 119 = .ok (.aload_n 0, 1) := by decide +kernel
theorem dX10_sends_120 : decode cX10_sends 120 = .ok (.iload_n 1, 1) := by decide +kernel
theorem dX10_sends_121 : decode cX10_sends 121 = .ok (.iconst 2, 1) := by decide +kernel
theorem dX10_sends_122 : decode cX10_sends 122 = .ok (.invokevirtual 62, 3) := by decide +kernel
theorem dX10_sends_125 : decode cX10_sends 125 = .ok (.ldc2_w 116, 3) := by decide +kernel
theorem dX10_sends_128 : decode cX10_sends 128 = .ok (.lcmp, 1) := by decide +kernel
theorem dX10_sends_129 : decode cX10_sends 129 = .ok (.ifCond .ne 9, 3) := by decide +kernel
theorem dX10_sends_132 : decode cX10_sends 132 = .ok (.ldc2_w 134, 3) := by decide +kernel
theorem dX10_sends_135 : decode cX10_sends 135 = .ok (.goto 4, 3) := by decide +kernel
theorem dX10_sends_138 : decode cX10_sends 138 = .ok (.lconst 1, 1) := by decide +kernel
theorem dX10_sends_139 : decode cX10_sends 139 = .ok (.lmul, 1) := by decide +kernel
theorem dX10_sends_140 : decode cX10_sends 140 = .ok (.invokevirtual 40, 3) := by decide +kernel
theorem dX10_sends_143 : decode cX10_sends 143 = .ok (.aload_n 0, 1) := by decide +kernel
theorem dX10_sends_144 : decode cX10_sends 144 = .ok (.iload_n 3, 1) := by decide +kernel
theorem dX10_sends_145 : decode cX10_sends 145 = .ok (.iconst 5, 1) := by decide +kernel
theorem dX10_sends_146 : decode cX10_sends 146 = .ok (.invokestatic 55, 3) := by decide +kernel
theorem dX10_sends_149 : decode cX10_sends 149 = .ok (.ldc2_w 144, 3) := by decide +kernel
theorem dX10_sends_152 : decode cX10_sends 152 = .ok (.invokevirtual 40, 3) := by decide +kernel
theorem dX10_sends_155 : decode cX10_sends 155 = .ok (.aload_n 0, 1) := by decide +kernel
theorem dX10_sends_156 : decode cX10_sends 156 = .ok (.iload_n 3, 1) := by decide +kernel
theorem dX10_sends_157 : decode cX10_sends 157 = .ok (.bipush 7, 2) := by decide +kernel
theorem dX10_sends_159 : decode cX10_sends 159 = .ok (.invokestatic 55, 3) := by decide +kernel
theorem dX10_sends_162 : decode cX10_sends 162 = .ok (.lconst 0, 1) := by decide +kernel
theorem dX10_sends_163 : decode cX10_sends 163 = .ok (.invokevirtual 40, 3) := by decide +kernel
theorem dX10_sends_166 : decode cX10_sends 166 = .ok (.aload_n 0, 1) := by decide +kernel
theorem dX10_sends_167 : decode cX10_sends 167 = .ok (.iload_n 1, 1) := by decide +kernel
theorem dX10_sends_168 : decode cX10_sends 168 = .ok (.iconst 1, 1) := by decide +kernel
theorem dX10_sends_169 : decode cX10_sends 169 = .ok (.invokevirtual 62, 3) := by decide +kernel
theorem dX10_sends_172 : decode cX10_sends 172 = .ok (.lconst 0, 1) := by decide +kernel
theorem dX10_sends_173 : decode cX10_sends 173 = .ok (.lcmp, 1) := by decide +kernel
theorem dX10_sends_174 : decode cX10_sends 174 = .ok (.ifCond .ne 10, 3) := by decide +kernel
theorem dX10_sends_177 : decode cX10_sends 177 = .ok (.aload_n 0, 1) := by decide +kernel
theorem dX10_sends_178 : decode cX10_sends 178 = .ok (.iconst 3, 1) := by decide +kernel
theorem dX10_sends_179 : decode cX10_sends 179 = .ok (.iconst (-1), 1) := by decide +kernel
theorem dX10_sends_180 : decode cX10_sends 180 = .ok (.iload_n 1, 1) := by decide +kernel
theorem dX10_sends_181 : decode cX10_sends 181 = .ok (.invokevirtual 100, 3) := by decide +kernel
theorem dX10_sends_184 : decode cX10_sends 184 = .ok (.aload_n 0, 1) := by decide +kernel
theorem dX10_sends_185 : decode cX10_sends 185 = .ok (.iload_n 3, 1) := by decide +kernel
theorem dX10_sends_186 : decode cX10_sends 186 = .ok (.aload_n 0, 1) := by decide +kernel
theorem dX10_sends_187 : decode cX10_sends 187 = .ok (.iload_n 1, 1) := by decide +kernel
theorem dX10_sends_188 : decode cX10_sends 188 = .ok (.iconst 0, 1) := by decide +kernel
theorem dX10_sends_189 : decode cX10_sends 189 = .ok (.invokevirtual 66, 3) := by decide +kernel
theorem dX10_sends_192 : decode cX10_sends 192 = .ok (.invokevirtual 130, 3) := by decide +kernel
theorem dX10_sends_195 : decode cX10_sends 195 = .ok (.iinc 2 1, 3) := by decide +kernel
theorem dX10_sends_198 : decode cX10_sends 198 = .ok (.goto (-196), 3) := by decide +kernel
theorem dX10_sends_201 : decode cX10_sends 201 = .ok (.return_, 1) := by decide +kernel
theorem dX10_plusBy_0 : decode cX10_plusBy 0 = .ok (.lload_n 2, 1) := by decide +kernel
theorem dX10_plusBy_1 : decode cX10_plusBy 1 = .ok (.aload_n 0, 1) := by decide +kernel
theorem dX10_plusBy_2 : decode cX10_plusBy 2 = .ok (.iload_n 1, 1) := by decide +kernel
theorem dX10_plusBy_3 : decode cX10_plusBy 3 = .ok (.bipush 8, 2) := by decide +kernel
theorem dX10_plusBy_5 : decode cX10_plusBy 5 = .ok (.invokevirtual 69, 3) := by decide +kernel
theorem dX10_plusBy_8 : decode cX10_plusBy 8 = .ok (.lmul, 1) := by decide +kernel
theorem dX10_plusBy_9 : decode cX10_plusBy 9 = .ok (.aload_n 0, 1) := by decide +kernel
theorem dX10_plusBy_10 : decode cX10_plusBy 10 = .ok (.iload_n 1, 1) := by decide +kernel
theorem dX10_plusBy_11 : decode cX10_plusBy 11 = .ok (.bipush 10, 2) := by decide +kernel
theorem dX10_plusBy_13 : decode cX10_plusBy 13 = .ok (.invokevirtual 69, 3) := by decide +kernel
theorem dX10_plusBy_16 : decode cX10_plusBy 16 = .ok (.ldiv, 1) := by decide +kernel
theorem dX10_plusBy_17 : decode cX10_plusBy 17 = .ok (.lreturn, 1) := by decide +kernel
theorem dX10_minusBy_0 : decode cX10_minusBy 0 = .ok (.lload_n 2, 1) := by decide +kernel
theorem dX10_minusBy_1 : decode cX10_minusBy 1 = .ok (.aload_n 0, 1) := by decide +kernel
theorem dX10_minusBy_2 : decode cX10_minusBy 2 = .ok (.iload_n 1, 1) := by decide +kernel
theorem dX10_minusBy_3 : decode cX10_minusBy 3 = .ok (.bipush 9, 2) := by decide +kernel
theorem dX10_minusBy_5 : decode cX10_minusBy 5 = .ok (.invokevirtual 69, 3) := by decide +kernel
theorem dX10_minusBy_8 : decode cX10_minusBy 8 = .ok (.lmul, 1) := by decide +kernel
theorem dX10_minusBy_9 : decode cX10_minusBy 9 = .ok (.aload_n 0, 1) := by decide +kernel
theorem dX10_minusBy_10 : decode cX10_minusBy 10 = .ok (.iload_n 1, 1) := by decide +kernel
theorem dX10_minusBy_11 : decode cX10_minusBy 11 = .ok (.bipush 11, 2) := by decide +kernel
theorem dX10_minusBy_13 : decode cX10_minusBy 13 = .ok (.invokevirtual 69, 3) := by decide +kernel
theorem dX10_minusBy_16 : decode cX10_minusBy 16 = .ok (.ldiv, 1) := by decide +kernel
theorem dX10_minusBy_17 : decode cX10_minusBy 17 = .ok (.lreturn, 1) := by decide +kernel
theorem dX10_gotWith_0 : decode cX10_gotWith 0 = .ok (.aload_n 0, 1) := by decide +kernel
theorem dX10_gotWith_1 : decode cX10_gotWith 1 = .ok (.iload_n 1, 1) := by decide +kernel
theorem dX10_gotWith_2 : decode cX10_gotWith 2 = .ok (.bipush 10, 2) := by decide +kernel
theorem dX10_gotWith_4 : decode cX10_gotWith 4 = .ok (.invokevirtual 69, 3) := by decide +kernel
theorem dX10_gotWith_7 : decode cX10_gotWith 7 = .ok (.aload_n 0, 1) := by decide +kernel
theorem dX10_gotWith_8 : decode cX10_gotWith 8 = .ok (.iload_n 1, 1) := by decide +kernel
theorem dX10_gotWith_9 : decode cX10_gotWith 9 = .ok (.bipush 12, 2) := by decide +kernel
theorem dX10_gotWith_11 : decode cX10_gotWith 11 = .ok (.invokevirtual 69, 3) := by decide +kernel
theorem dX10_gotWith_14 : decode cX10_gotWith 14 = .ok (.aload_n 0, 1) := by decide +kernel
theorem dX10_gotWith_15 : decode cX10_gotWith 15 = .ok (.iload_n 2, 1) := by decide +kernel
theorem dX10_gotWith_16 : decode cX10_gotWith 16 = .ok (.invokevirtual 108, 3) := by decide +kernel
theorem dX10_gotWith_19 : decode cX10_gotWith 19 = .ok (.ladd, 1) := by decide +kernel
theorem dX10_gotWith_20 : decode cX10_gotWith 20 = .ok (.invokestatic 113, 3) := by decide +kernel
theorem dX10_gotWith_23 : decode cX10_gotWith 23 = .ok (.lreturn, 1) := by decide +kernel
theorem dX10_tookWith_0 : decode cX10_tookWith 0 = .ok (.aload_n 0, 1) := by decide +kernel
theorem dX10_tookWith_1 : decode cX10_tookWith 1 = .ok (.iload_n 1, 1) := by decide +kernel
theorem dX10_tookWith_2 : decode cX10_tookWith 2 = .ok (.bipush 11, 2) := by decide +kernel
theorem dX10_tookWith_4 : decode cX10_tookWith 4 = .ok (.invokevirtual 69, 3) := by decide +kernel
theorem dX10_tookWith_7 : decode cX10_tookWith 7 = .ok (.aload_n 0, 1) := by decide +kernel
theorem dX10_tookWith_8 : decode cX10_tookWith 8 = .ok (.iload_n 1, 1) := by decide +kernel
theorem dX10_tookWith_9 : decode cX10_tookWith 9 = .ok (.bipush 13, 2) := by decide +kernel
theorem dX10_tookWith_11 : decode cX10_tookWith 11 = .ok (.invokevirtual 69, 3) := by decide +kernel
theorem dX10_tookWith_14 : decode cX10_tookWith 14 = .ok (.lconst 1, 1) := by decide +kernel
theorem dX10_tookWith_15 : decode cX10_tookWith 15 = .ok (.ladd, 1) := by decide +kernel
theorem dX10_tookWith_16 : decode cX10_tookWith 16 = .ok (.invokestatic 113, 3) := by decide +kernel
theorem dX10_tookWith_19 : decode cX10_tookWith 19 = .ok (.lreturn, 1) := by decide +kernel
theorem dX10_shareOf_0 : decode cX10_shareOf 0 = .ok (.aload_n 0, 1) := by decide +kernel
theorem dX10_shareOf_1 : decode cX10_shareOf 1 = .ok (.iload_n 1, 1) := by decide +kernel
theorem dX10_shareOf_2 : decode cX10_shareOf 2 = .ok (.aload_n 0, 1) := by decide +kernel
theorem dX10_shareOf_3 : decode cX10_shareOf 3 = .ok (.iload_n 1, 1) := by decide +kernel
theorem dX10_shareOf_4 : decode cX10_shareOf 4 = .ok (.iload_n 2, 1) := by decide +kernel
theorem dX10_shareOf_5 : decode cX10_shareOf 5 = .ok (.invokevirtual 146, 3) := by decide +kernel
theorem dX10_shareOf_8 : decode cX10_shareOf 8 = .ok (.invokevirtual 149, 3) := by decide +kernel
theorem dX10_shareOf_11 : decode cX10_shareOf 11 = .ok (.aload_n 0, 1) := by decide +kernel
theorem dX10_shareOf_12 : decode cX10_shareOf 12 = .ok (.iload_n 1, 1) := by decide +kernel
theorem dX10_shareOf_13 : decode cX10_shareOf 13 = .ok (.aload_n 0, 1) := by decide +kernel
theorem dX10_shareOf_14 : decode cX10_shareOf 14 = .ok (.iload_n 1, 1) := by decide +kernel
theorem dX10_shareOf_15 : decode cX10_shareOf 15 = .ok (.bipush 12, 2) := by decide +kernel
theorem dX10_shareOf_17 : decode cX10_shareOf 17 = .ok (.invokevirtual 69, 3) := by decide +kernel
theorem dX10_shareOf_20 : decode cX10_shareOf 20 = .ok (.invokevirtual 149, 3) := by decide +kernel
theorem dX10_shareOf_23 : decode cX10_shareOf 23 = .ok (.lsub, 1) := by decide +kernel
theorem dX10_shareOf_24 : decode cX10_shareOf 24 = .ok (.aload_n 0, 1) := by decide +kernel
theorem dX10_shareOf_25 : decode cX10_shareOf 25 = .ok (.iload_n 1, 1) := by decide +kernel
theorem dX10_shareOf_26 : decode cX10_shareOf 26 = .ok (.aload_n 0, 1) := by decide +kernel
theorem dX10_shareOf_27 : decode cX10_shareOf 27 = .ok (.iload_n 1, 1) := by decide +kernel
theorem dX10_shareOf_28 : decode cX10_shareOf 28 = .ok (.invokevirtual 153, 3) := by decide +kernel
theorem dX10_shareOf_31 : decode cX10_shareOf 31 = .ok (.invokevirtual 156, 3) := by decide +kernel
theorem dX10_shareOf_34 : decode cX10_shareOf 34 = .ok (.lsub, 1) := by decide +kernel
theorem dX10_shareOf_35 : decode cX10_shareOf 35 = .ok (.aload_n 0, 1) := by decide +kernel
theorem dX10_shareOf_36 : decode cX10_shareOf 36 = .ok (.iload_n 1, 1) := by decide +kernel
theorem dX10_shareOf_37 : decode cX10_shareOf 37 = .ok (.aload_n 0, 1) := by decide +kernel
theorem dX10_shareOf_38 : decode cX10_shareOf 38 = .ok (.iload_n 1, 1) := by decide +kernel
theorem dX10_shareOf_39 : decode cX10_shareOf 39 = .ok (.bipush 13, 2) := by decide +kernel
theorem dX10_shareOf_41 : decode cX10_shareOf 41 = .ok (.invokevirtual 69, 3) := by decide +kernel
theorem dX10_shareOf_44 : decode cX10_shareOf 44 = .ok (.invokevirtual 156, 3) := by decide +kernel
theorem dX10_shareOf_47 : decode cX10_shareOf 47 = .ok (.ladd, 1) := by decide +kernel
theorem dX10_shareOf_48 : decode cX10_shareOf 48 = .ok (.lreturn, 1) := by decide +kernel
theorem dX10_leaves_0 : decode cX10_leaves 0 = .ok (.aload_n 0, 1) := by decide +kernel
theorem dX10_leaves_1 : decode cX10_leaves 1 = .ok (.iload_n 1, 1) := by decide +kernel
theorem dX10_leaves_2 : decode cX10_leaves 2 = .ok (.iconst 0, 1) := by decide +kernel
theorem dX10_leaves_3 : decode cX10_leaves 3 = .ok (.invokevirtual 69, 3) := by decide +kernel
theorem dX10_leaves_6 : decode cX10_leaves 6 = .ok (.aload_n 0, 1) := by decide +kernel
theorem dX10_leaves_7 : decode cX10_leaves 7 = .ok (.iload_n 1, 1) := by decide +kernel
theorem dX10_leaves_8 : decode cX10_leaves 8 = .ok (.iconst 4, 1) := by decide +kernel
theorem dX10_leaves_9 : decode cX10_leaves 9 = .ok (.invokevirtual 69, 3) := by decide +kernel
theorem dX10_leaves_12 : decode cX10_leaves 12 = .ok (.invokestatic 113, 3) := by decide +kernel
theorem dX10_leaves_15 : decode cX10_leaves 15 = .ok (.l2i, 1) := by decide +kernel
theorem dX10_leaves_16 : decode cX10_leaves 16 = .ok (.istore_n 2, 1) := by decide +kernel
theorem dX10_leaves_17 : decode cX10_leaves 17 = .ok (.sipush 4208, 3) := by decide +kernel
theorem dX10_leaves_20 : decode cX10_leaves 20 = .ok (.bipush 60, 2) := by decide +kernel
theorem dX10_leaves_22 : decode cX10_leaves 22 = .ok (.iload_n 1, 1) := by decide +kernel
theorem dX10_leaves_23 : decode cX10_leaves 23 = .ok (.imul, 1) := by decide +kernel
theorem dX10_leaves_24 : decode cX10_leaves 24 = .ok (.iadd, 1) := by decide +kernel
theorem dX10_leaves_25 : decode cX10_leaves 25 = .ok (.istore_n 3, 1) := by decide +kernel
theorem dX10_leaves_26 : decode cX10_leaves 26 = .ok (.iconst 0, 1) := by decide +kernel
theorem dX10_leaves_27 : decode cX10_leaves 27 = .ok (.istore 4, 2) := by decide +kernel
theorem dX10_leaves_29 : decode cX10_leaves 29 = .ok (.iload 4, 2) := by decide +kernel
theorem dX10_leaves_31 : decode cX10_leaves 31 = .ok (.iload_n 2, 1) := by decide +kernel
theorem dX10_leaves_32 : decode cX10_leaves 32 = .ok (.if_icmp .ge 150, 3) := by decide +kernel
theorem dX10_leaves_35 : decode cX10_leaves 35 = .ok (.aload_n 0, 1) := by decide +kernel
theorem dX10_leaves_36 : decode cX10_leaves 36 = .ok (.iload_n 3, 1) := by decide +kernel
theorem dX10_leaves_37 : decode cX10_leaves 37 = .ok (.iload 4, 2) := by decide +kernel
theorem dX10_leaves_39 : decode cX10_leaves 39 = .ok (.iadd, 1) := by decide +kernel
theorem dX10_leaves_40 : decode cX10_leaves 40 = .ok (.invokevirtual 58, 3) := by decide +kernel
theorem dX10_leaves_43 : decode cX10_leaves 43 = .ok (.istore 5, 2) := by decide +kernel
theorem dX10_leaves_45 : decode cX10_leaves 45 = .ok (.aload_n 0, 1) := by decide +kernel
theorem dX10_leaves_46 : decode cX10_leaves 46 = .ok (.iload 5, 2) := by decide +kernel
theorem dX10_leaves_48 : decode cX10_leaves 48 = .ok (.iconst 5, 1) := by decide +kernel
theorem dX10_leaves_49 : decode cX10_leaves 49 = .ok (.invokestatic 55, 3) := by decide +kernel
theorem dX10_leaves_52 : decode cX10_leaves 52 = .ok (.aload_n 0, 1) := by decide +kernel
theorem dX10_leaves_53 : decode cX10_leaves 53 = .ok (.iload 5, 2) := by decide +kernel
theorem dX10_leaves_55 : decode cX10_leaves 55 = .ok (.iconst 5, 1) := by decide +kernel
theorem dX10_leaves_56 : decode cX10_leaves 56 = .ok (.invokestatic 55, 3) := by decide +kernel
theorem dX10_leaves_59 : decode cX10_leaves 59 = .ok (.invokevirtual 48, 3) := by decide +kernel
theorem dX10_leaves_62 : decode cX10_leaves 62 = .ok (.aload_n 0, 1) := by decide +kernel
theorem dX10_leaves_63 : decode cX10_leaves 63 = .ok (.iload_n 1, 1) := by decide +kernel
theorem dX10_leaves_64 : decode cX10_leaves 64 = .ok (.iload 5, 2) := by decide +kernel
theorem dX10_leaves_66 : decode cX10_leaves 66 = .ok (.invokevirtual 159, 3) := by decide +kernel
theorem dX10_leaves_69 : decode cX10_leaves 69 = .ok (.invokestatic 113, 3) := by decide +kernel
theorem dX10_leaves_72 : decode cX10_leaves 72 = .ok (.invokevirtual 40, 3) := by decide +kernel
theorem dX10_leaves_75 : decode cX10_leaves 75 = .ok (.aload_n 0, 1) := by decide +kernel
theorem dX10_leaves_76 : decode cX10_leaves 76 = .ok (.iload_n 1, 1) := by decide +kernel
theorem dX10_leaves_77 : decode cX10_leaves 77 = .ok (.bipush 12, 2) := by decide +kernel
theorem dX10_leaves_79 : decode cX10_leaves 79 = .ok (.invokestatic 44, 3) := by decide +kernel
theorem dX10_leaves_82 : decode cX10_leaves 82 = .ok (.aload_n 0, 1) := by decide +kernel
theorem dX10_leaves_83 : decode cX10_leaves 83 = .ok (.iload_n 1, 1) := by decide +kernel
theorem dX10_leaves_84 : decode cX10_leaves 84 = .ok (.iload 5, 2) := by decide +kernel
theorem dX10_leaves_86 : decode cX10_leaves 86 = .ok (.invokevirtual 146, 3) := by decide +kernel
theorem dX10_leaves_89 : decode cX10_leaves 89 = .ok (.invokevirtual 40, 3) := by decide +kernel
theorem dX10_leaves_92 : decode cX10_leaves 92 = .ok (.aload_n 0, 1) := by decide +kernel
theorem dX10_leaves_93 : decode cX10_leaves 93 = .ok (.iload_n 1, 1) := by decide +kernel
theorem dX10_leaves_94 : decode cX10_leaves 94 = .ok (.bipush 13, 2) := by decide +kernel
theorem dX10_leaves_96 : decode cX10_leaves 96 = .ok (.invokestatic 44, 3) := by decide +kernel
theorem dX10_leaves_99 : decode cX10_leaves 99 = .ok (.aload_n 0, 1) := by decide +kernel
theorem dX10_leaves_100 : decode cX10_leaves 100 = .ok (.iload_n 1, 1) := by decide +kernel
theorem dX10_leaves_101 : decode cX10_leaves 101 = .ok (.invokevirtual 153, 3) := by decide +kernel
theorem dX10_leaves_104 : decode cX10_leaves 104 = .ok (.invokevirtual 40, 3) := by decide +kernel
theorem dX10_leaves_107 : decode cX10_leaves 107 = .ok (.aload_n 0, 1) := by decide +kernel
theorem dX10_leaves_108 : decode cX10_leaves 108 = .ok (.iload 5, 2) := by decide +kernel
theorem dX10_leaves_110 : decode cX10_leaves 110 = .ok (.bipush 6, 2) := by decide +kernel
theorem dX10_leaves_112 : decode cX10_leaves 112 = .ok (.invokestatic 55, 3) := by decide +kernel
theorem dX10_leaves_115 : decode cX10_leaves 115 = .ok (.aload_n 0, 1) := by decide +kernel
theorem dX10_leaves_116 : decode cX10_leaves 116 = .ok (.iconst 2, 1) := by decide +kernel
theorem dX10_leaves_117 : decode cX10_leaves 117 = .ok (.invokevirtual 48, 3) := by decide +kernel
theorem dX10_leaves_120 : decode cX10_leaves 120 = .ok (.aload_n 0, 1) := by decide +kernel
theorem dX10_leaves_121 : decode cX10_leaves 121 = .ok (.iload_n 1, 1) := by decide +kernel
theorem dX10_leaves_122 : decode cX10_leaves 122 = .ok (.iconst 1, 1) := by decide +kernel
theorem dX10_leaves_123 : decode cX10_leaves 123 = .ok (.invokevirtual 69, 3) := by decide +kernel
theorem dX10_leaves_126 : decode cX10_leaves 126 = .ok (.ladd, 1) := by decide +kernel
theorem dX10_leaves_127 : decode cX10_leaves 127 = .ok (.invokevirtual 40, 3) := by decide +kernel
theorem dX10_leaves_130 : decode cX10_leaves 130 = .ok (.aload_n 0, 1) := by decide +kernel
theorem dX10_leaves_131 : decode cX10_leaves 131 = .ok (.sipush 4568, 3) := by decide +kernel
theorem dX10_leaves_134 : decode cX10_leaves 134 = .ok (.bipush 90, 2) := by decide +kernel
theorem dX10_leaves_136 : decode cX10_leaves 136 = .ok (.iload_n 1, 1) := by decide +kernel
theorem dX10_leaves_137 : decode cX10_leaves 137 = .ok (.imul, 1) := by decide +kernel
theorem dX10_leaves_138 : decode cX10_leaves 138 = .ok (.iadd, 1) := by decide +kernel
theorem dX10_leaves_139 : decode cX10_leaves 139 = .ok (.aload_n 0, 1) := by decide +kernel
theorem dX10_leaves_140 : decode cX10_leaves 140 = .ok (.iload_n 1, 1) := by decide +kernel
theorem dX10_leaves_141 : decode cX10_leaves 141 = .ok (.iconst 5, 1) := by decide +kernel
theorem dX10_leaves_142 : decode cX10_leaves 142 = .ok (.invokestatic 44, 3) := by decide +kernel
theorem dX10_leaves_145 : decode cX10_leaves 145 = .ok (.invokevirtual 58, 3) := by decide +kernel
theorem dX10_leaves_148 : decode cX10_leaves 148 = .ok (.iadd, 1) := by decide +kernel
theorem dX10_leaves_149 : decode cX10_leaves 149 = .ok (.iload 5, 2) := by decide +kernel
theorem dX10_leaves_151 : decode cX10_leaves 151 = .ok (.i2l, 1) := by decide +kernel
theorem dX10_leaves_152 : decode cX10_leaves 152 = .ok (.invokevirtual 40, 3) := by decide +kernel
theorem dX10_leaves_155 : decode cX10_leaves 155 = .ok (.aload_n 0, 1) := by decide +kernel
theorem dX10_leaves_156 : decode cX10_leaves 156 = .ok (.iload_n 1, 1) := by decide +kernel
theorem dX10_leaves_157 : decode cX10_leaves 157 = .ok (.iconst 5, 1) := by decide +kernel
theorem dX10_leaves_158 : decode cX10_leaves 158 = .ok (.invokestatic 44, 3) := by decide +kernel
theorem dX10_leaves_161 : decode cX10_leaves 161 = .ok (.lconst 1, 1) := by decide +kernel
theorem dX10_leaves_162 : decode cX10_leaves 162 = .ok (.invokevirtual 76, 3) := by decide +kernel
theorem dX10_leaves_165 : decode cX10_leaves 165 = .ok (.aload_n 0, 1) := by decide +kernel
theorem dX10_leaves_166 : decode cX10_leaves 166 = .ok (.iload_n 1, 1) := by decide +kernel
theorem dX10_leaves_167 : decode cX10_leaves 167 = .ok (.bipush 16, 2) := by decide +kernel
theorem dX10_leaves_169 : decode cX10_leaves 169 = .ok (.invokestatic 44, 3) := by decide +kernel
theorem dX10_leaves_172 : decode cX10_leaves 172 = .ok (.lconst 1, 1) := by decide +kernel
theorem dX10_leaves_173 : decode cX10_leaves 173 = .ok (.invokevirtual 76, 3) := by decide +kernel
theorem dX10_leaves_176 : decode cX10_leaves 176 = .ok (.iinc 4 1, 3) := by decide +kernel
theorem dX10_leaves_179 : decode cX10_leaves 179 = .ok (.goto (-150), 3) := by decide +kernel
theorem dX10_leaves_182 : decode cX10_leaves 182 = .ok (.aload_n 0, 1) := by decide +kernel
theorem dX10_leaves_183 : decode cX10_leaves 183 = .ok (.iload_n 1, 1) := by decide +kernel
theorem dX10_leaves_184 : decode cX10_leaves 184 = .ok (.iconst 4, 1) := by decide +kernel
theorem dX10_leaves_185 : decode cX10_leaves 185 = .ok (.invokestatic 44, 3) := by decide +kernel
theorem dX10_leaves_188 : decode cX10_leaves 188 = .ok (.iload_n 2, 1) := by decide +kernel
theorem dX10_leaves_189 : decode cX10_leaves 189 = .ok (.ineg, 1) := by decide +kernel
theorem dX10_leaves_190 : decode cX10_leaves 190 = .ok (.i2l, 1) := by decide +kernel
theorem dX10_leaves_191 : decode cX10_leaves 191 = .ok (.invokevirtual 76, 3) := by decide +kernel
theorem dX10_leaves_194 : decode cX10_leaves 194 = .ok (.iconst 0, 1) := by decide +kernel
theorem dX10_leaves_195 : decode cX10_leaves 195 = .ok (.istore 4, 2) := by decide +kernel
theorem dX10_leaves_197 : decode cX10_leaves 197 = .ok (.iload 4, 2) := by decide +kernel
theorem dX10_leaves_199 : decode cX10_leaves 199 = .ok (.i2l, 1) := by decide +kernel
theorem dX10_leaves_200 : decode cX10_leaves 200 = .ok (.aload_n 0, 1) := by decide +kernel
theorem dX10_leaves_201 : decode cX10_leaves 201 = .ok (.iload_n 1, 1) := by decide +kernel
theorem dX10_leaves_202 : decode cX10_leaves 202 = .ok (.iconst 4, 1) := by decide +kernel
theorem dX10_leaves_203 : decode cX10_leaves 203 = .ok (.invokevirtual 69, 3) := by decide +kernel
theorem dX10_leaves_206 : decode cX10_leaves 206 = .ok (.lcmp, 1) := by decide +kernel
theorem dX10_leaves_207 : decode cX10_leaves 207 = .ok (.ifCond .ge 27, 3) := by decide +kernel
theorem dX10_leaves_210 : decode cX10_leaves 210 = .ok (.aload_n 0, 1) := by decide +kernel
theorem dX10_leaves_211 : decode cX10_leaves 211 = .ok (.iload_n 3, 1) := by decide +kernel
theorem dX10_leaves_212 : decode cX10_leaves 212 = .ok (.iload 4, 2) := by decide +kernel
theorem dX10_leaves_214 : decode cX10_leaves 214 = .ok (.iadd, 1) := by decide +kernel
theorem dX10_leaves_215 : decode cX10_leaves 215 = .ok (.aload_n 0, 1) := by decide +kernel
theorem dX10_leaves_216 : decode cX10_leaves 216 = .ok (.iload_n 3, 1) := by decide +kernel
theorem dX10_leaves_217 : decode cX10_leaves 217 = .ok (.iload 4, 2) := by decide +kernel
theorem dX10_leaves_219 : decode cX10_leaves 219 = .ok (.iadd, 1) := by decide +kernel
theorem dX10_leaves_220 : decode cX10_leaves 220 = .ok (.iload_n 2, 1) := by decide +kernel
theorem dX10_leaves_221 : decode cX10_leaves 221 = .ok (.iadd, 1) := by decide +kernel
theorem dX10_leaves_222 : decode cX10_leaves 222 = .ok (.invokevirtual 48, 3) := by decide +kernel
theorem dX10_leaves_225 : decode cX10_leaves 225 = .ok (.invokevirtual 40, 3) := by decide +kernel
theorem dX10_leaves_228 : decode cX10_leaves 228 = .ok (.iinc 4 1, 3) := by decide +kernel
theorem dX10_leaves_231 : decode cX10_leaves 231 = .ok (.goto (-34), 3) := by decide +kernel
theorem dX10_leaves_234 : decode cX10_leaves 234 = .ok (.aload_n 0, 1) := by decide +kernel
theorem dX10_leaves_235 : decode cX10_leaves 235 = .ok (.iload_n 1, 1) := by decide +kernel
theorem dX10_leaves_236 : decode cX10_leaves 236 = .ok (.bipush 7, 2) := by decide +kernel
theorem dX10_leaves_238 : decode cX10_leaves 238 = .ok (.invokestatic 44, 3) := by decide +kernel
theorem dX10_leaves_241 : decode cX10_leaves 241 = .ok (.aload_n 0, 1) := by decide +kernel
theorem dX10_leaves_242 : decode cX10_leaves 242 = .ok (.iload_n 1, 1) := by decide +kernel
theorem dX10_leaves_243 : decode cX10_leaves 243 = .ok (.bipush 7, 2) := by decide +kernel
theorem dX10_leaves_245 : decode cX10_leaves 245 = .ok (.invokevirtual 69, 3) := by decide +kernel
theorem dX10_leaves_248 : decode cX10_leaves 248 = .ok (.aload_n 0, 1) := by decide +kernel
theorem dX10_leaves_249 : decode cX10_leaves 249 = .ok (.iload_n 1, 1) := by decide +kernel
theorem dX10_leaves_250 : decode cX10_leaves 250 = .ok (.iconst 4, 1) := by decide +kernel
theorem dX10_leaves_251 : decode cX10_leaves 251 = .ok (.invokevirtual 69, 3) := by decide +kernel
theorem dX10_leaves_254 : decode cX10_leaves 254 = .ok (.invokestatic 113, 3) := by decide +kernel
theorem dX10_leaves_257 : decode cX10_leaves 257 = .ok (.invokevirtual 40, 3) := by decide +kernel
theorem dX10_leaves_260 : decode cX10_leaves 260 = .ok (.return_, 1) := by decide +kernel
theorem dX10_catches_0 : decode cX10_catches 0 = .ok (.aload_n 0, 1) := by decide +kernel
theorem dX10_catches_1 : decode cX10_catches 1 = .ok (.iload_n 1, 1) := by decide +kernel
theorem dX10_catches_2 : decode cX10_catches 2 = .ok (.bipush 20, 2) := by decide +kernel
theorem dX10_catches_4 : decode cX10_catches 4 = .ok (.iload_n 2, 1) := by decide +kernel
theorem dX10_catches_5 : decode cX10_catches 5 = .ok (.iadd, 1) := by decide +kernel
theorem dX10_catches_6 : decode cX10_catches 6 = .ok (.invokevirtual 69, 3) := by decide +kernel
theorem dX10_catches_9 : decode cX10_catches 9 = .ok (.lstore_n 3, 1) := by decide +kernel
theorem dX10_catches_10 : decode cX10_catches 10 = .ok (.aload_n 0, 1) := by decide +kernel
theorem dX10_catches_11 : decode cX10_catches 11 = .ok (.iload_n 1, 1) := by decide +kernel
theorem dX10_catches_12 : decode cX10_catches 12 = .ok (.bipush 32, 2) := by decide +kernel
theorem dX10_catches_14 : decode cX10_catches 14 = .ok (.iload_n 2, 1) := by decide +kernel
theorem dX10_catches_15 : decode cX10_catches 15 = .ok (.iadd, 1) := by decide +kernel
theorem dX10_catches_16 : decode cX10_catches 16 = .ok (.invokevirtual 69, 3) := by decide +kernel
theorem dX10_catches_19 : decode cX10_catches 19 = .ok (.lstore 5, 2) := by decide +kernel
theorem dX10_catches_21 : decode cX10_catches 21 = .ok (.lload 5, 2) := by decide +kernel
theorem dX10_catches_23 : decode cX10_catches 23 = .ok (.lconst 0, 1) := by decide +kernel
theorem dX10_catches_24 : decode cX10_catches 24 = .ok (.lcmp, 1) := by decide +kernel
theorem dX10_catches_25 : decode cX10_catches 25 = .ok (.ifCond .ne 7, 3) := by decide +kernel
theorem dX10_catches_28 : decode cX10_catches 28 = .ok (.lconst 0, 1) := by decide +kernel
theorem dX10_catches_29 : decode cX10_catches 29 = .ok (.goto 26, 3) := by decide +kernel
theorem dX10_catches_32 : decode cX10_catches 32 = .ok (.aload_n 0, 1) := by decide +kernel
theorem dX10_catches_33 : decode cX10_catches 33 = .ok (.iload_n 1, 1) := by decide +kernel
theorem dX10_catches_34 : decode cX10_catches 34 = .ok (.bipush 26, 2) := by decide +kernel
theorem dX10_catches_36 : decode cX10_catches 36 = .ok (.iload_n 2, 1) := by decide +kernel
theorem dX10_catches_37 : decode cX10_catches 37 = .ok (.iadd, 1) := by decide +kernel
theorem dX10_catches_38 : decode cX10_catches 38 = .ok (.invokevirtual 69, 3) := by decide +kernel
theorem dX10_catches_41 : decode cX10_catches 41 = .ok (.aload_n 0, 1) := by decide +kernel
theorem dX10_catches_42 : decode cX10_catches 42 = .ok (.iload_n 1, 1) := by decide +kernel
theorem dX10_catches_43 : decode cX10_catches 43 = .ok (.iconst 3, 1) := by decide +kernel
theorem dX10_catches_44 : decode cX10_catches 44 = .ok (.invokevirtual 69, 3) := by decide +kernel
theorem dX10_catches_47 : decode cX10_catches 47 = .ok (.lmul, 1) := by decide +kernel
theorem dX10_catches_48 : decode cX10_catches 48 = .ok (.ldc2_w 122, 3) := by decide +kernel
theorem dX10_catches_51 : decode cX10_catches 51 = .ok (.lload 5, 2) := by decide +kernel
theorem dX10_catches_53 : decode cX10_catches 53 = .ok (.lmul, 1) := by decide +kernel
theorem dX10_catches_54 : decode cX10_catches 54 = .ok (.ldiv, 1) := by decide +kernel
theorem dX10_catches_55 : decode cX10_catches 55 = .ok (.lstore 7, 2) := by decide +kernel
theorem dX10_catches_57 : decode cX10_catches 57 = .ok (.lload_n 3, 1) := by decide +kernel
theorem dX10_catches_58 : decode cX10_catches 58 = .ok (.lload 7, 2) := by decide +kernel
theorem dX10_catches_60 : decode cX10_catches 60 = .ok (.ldc2_w 134, 3) := by decide +kernel
theorem dX10_catches_63 : decode cX10_catches 63 = .ok (.lmul, 1) := by decide +kernel
theorem dX10_catches_64 : decode cX10_catches 64 = .ok (.ldc2_w 116, 3) := by decide +kernel
theorem dX10_catches_67 : decode cX10_catches 67 = .ok (.ldiv, 1) := by decide +kernel
theorem dX10_catches_68 : decode cX10_catches 68 = .ok (.ldc2_w 116, 3) := by decide +kernel
theorem dX10_catches_71 : decode cX10_catches 71 = .ok (.ladd, 1) := by decide +kernel
theorem dX10_catches_72 : decode cX10_catches 72 = .ok (.lcmp, 1) := by decide +kernel
theorem dX10_catches_73 : decode cX10_catches 73 = .ok (.ifCond .le 7, 3) := by decide +kernel
theorem dX10_catches_76 : decode cX10_catches 76 = .ok (.iconst 1, 1) := by decide +kernel
theorem dX10_catches_77 : decode cX10_catches 77 = .ok (.goto 4, 3) := by decide +kernel
theorem dX10_catches_80 : decode cX10_catches 80 = .ok (.iconst 0, 1) := by decide +kernel
theorem dX10_catches_81 : decode cX10_catches 81 = .ok (.istore 9, 2) := by decide +kernel
theorem dX10_catches_83 : decode cX10_catches 83 = .ok (.aload_n 0, 1) := by decide +kernel
theorem dX10_catches_84 : decode cX10_catches 84 = .ok (.iload_n 1, 1) := by decide +kernel
theorem dX10_catches_85 : decode cX10_catches 85 = .ok (.bipush 14, 2) := by decide +kernel
theorem dX10_catches_87 : decode cX10_catches 87 = .ok (.invokevirtual 69, 3) := by decide +kernel
theorem dX10_catches_90 : decode cX10_catches 90 = .ok (.iload_n 2, 1) := by decide +kernel
theorem dX10_catches_91 : decode cX10_catches 91 = .ok (.invokestatic 93, 3) := by decide +kernel
theorem dX10_catches_94 : decode cX10_catches 94 = .ok (.istore 10, 2) := by decide +kernel
theorem dX10_catches_96 : decode cX10_catches 96 = .ok (.iload 9, 2) := by decide +kernel
theorem dX10_catches_98 : decode cX10_catches 98 = .ok (.iload 10, 2) := by decide +kernel
theorem dX10_catches_100 : decode cX10_catches 100 = .ok (.if_icmp .ne 4, 3) := by decide +kernel
theorem dX10_catches_103 : decode cX10_catches 103 = .ok (.return_, 1) := by decide +kernel
theorem dX10_catches_104 : decode cX10_catches 104 = .ok (.aload_n 0, 1) := by decide +kernel
theorem dX10_catches_105 : decode cX10_catches 105 = .ok (.iload_n 1, 1) := by decide +kernel
theorem dX10_catches_106 : decode cX10_catches 106 = .ok (.bipush 14, 2) := by decide +kernel
theorem dX10_catches_108 : decode cX10_catches 108 = .ok (.invokestatic 44, 3) := by decide +kernel
theorem dX10_catches_111 : decode cX10_catches 111 = .ok (.aload_n 0, 1) := by decide +kernel
theorem dX10_catches_112 : decode cX10_catches 112 = .ok (.iload_n 1, 1) := by decide +kernel
theorem dX10_catches_113 : decode cX10_catches 113 = .ok (.bipush 14, 2) := by decide +kernel
theorem dX10_catches_115 : decode cX10_catches 115 = .ok (.invokevirtual 69, 3) := by decide +kernel
theorem dX10_catches_118 : decode cX10_catches 118 = .ok (.lconst 1, 1) := by decide +kernel
theorem dX10_catches_119 : decode cX10_catches 119 = .ok (.iload_n 2, 1) := by decide +kernel
theorem dX10_catches_120 : decode cX10_catches 120 = .ok (.lshl, 1) := by decide +kernel
theorem dX10_catches_121 : decode cX10_catches 121 = .ok (.lxor, 1) := by decide +kernel
theorem dX10_catches_122 : decode cX10_catches 122 = .ok (.invokevirtual 40, 3) := by decide +kernel
theorem dX10_catches_125 : decode cX10_catches 125 = .ok (.aload_n 0, 1) := by decide +kernel
theorem dX10_catches_126 : decode cX10_catches 126 = .ok (.iload 9, 2) := by decide +kernel
theorem dX10_catches_128 : decode cX10_catches 128 = .ok (.ifCond .eq 7, 3) := by decide +kernel
theorem dX10_catches_131 : decode cX10_catches 131 = .ok (.iconst 1, 1) := by decide +kernel
theorem dX10_catches_132 : decode cX10_catches 132 = .ok (.goto 4, 3) := by decide +kernel
theorem dX10_catches_135 : decode cX10_catches 135 = .ok (.iconst 2, 1) := by decide +kernel
theorem dX10_catches_136 : decode cX10_catches 136 = .ok (.iload_n 1, 1) := by decide +kernel
theorem dX10_catches_137 : decode cX10_catches 137 = .ok (.iload_n 2, 1) := by decide +kernel
theorem dX10_catches_138 : decode cX10_catches 138 = .ok (.invokevirtual 100, 3) := by decide +kernel
theorem dX10_catches_141 : decode cX10_catches 141 = .ok (.return_, 1) := by decide +kernel
theorem dX10_spanEnds_0 : decode cX10_spanEnds 0 = .ok (.aload_n 0, 1) := by decide +kernel
theorem dX10_spanEnds_1 : decode cX10_spanEnds 1 = .ok (.iload_n 1, 1) := by decide +kernel
theorem dX10_spanEnds_2 : decode cX10_spanEnds 2 = .ok (.bipush 6, 2) := by decide +kernel
theorem dX10_spanEnds_4 : decode cX10_spanEnds 4 = .ok (.invokevirtual 69, 3) := by decide +kernel
theorem dX10_spanEnds_7 : decode cX10_spanEnds 7 = .ok (.lstore_n 2, 1) := by decide +kernel
theorem dX10_spanEnds_8 : decode cX10_spanEnds 8 = .ok (.aload_n 0, 1) := by decide +kernel
theorem dX10_spanEnds_9 : decode cX10_spanEnds 9 = .ok (.iload_n 1, 1) := by decide +kernel
theorem dX10_spanEnds_10 : decode cX10_spanEnds 10 = .ok (.iconst 0, 1) := by decide +kernel
theorem dX10_spanEnds_11 : decode cX10_spanEnds 11 = .ok (.invokevirtual 69, 3) := by decide +kernel
theorem dX10_spanEnds_14 : decode cX10_spanEnds 14 = .ok (.aload_n 0, 1) := by decide +kernel
theorem dX10_spanEnds_15 : decode cX10_spanEnds 15 = .ok (.iload_n 1, 1) := by decide +kernel
theorem dX10_spanEnds_16 : decode cX10_spanEnds 16 = .ok (.iconst 3, 1) := by decide +kernel
theorem dX10_spanEnds_17 : decode cX10_spanEnds 17 = .ok (.invokevirtual 69, 3) := by decide +kernel
theorem dX10_spanEnds_20 : decode cX10_spanEnds 20 = .ok (.lmul, 1) := by decide +kernel
theorem dX10_spanEnds_21 : decode cX10_spanEnds 21 = .ok (.lstore 4, 2) := by decide +kernel
theorem dX10_spanEnds_23 : decode cX10_spanEnds 23 = .ok (.ldc2_w 162, 3) := by decide +kernel
theorem dX10_spanEnds_26 : decode cX10_spanEnds 26 = .ok (.lload 4, 2) := by decide +kernel
theorem dX10_spanEnds_28 : decode cX10_spanEnds 28 = .ok (.lload_n 2, 1) := by decide +kernel
theorem dX10_spanEnds_29 : decode cX10_spanEnds 29 = .ok (.lsub, 1) := by decide +kernel
theorem dX10_spanEnds_30 : decode cX10_spanEnds 30 = .ok (.lmul, 1) := by decide +kernel
theorem dX10_spanEnds_31 : decode cX10_spanEnds 31 = .ok (.ldc2_w 164, 3) := by decide +kernel
theorem dX10_spanEnds_34 : decode cX10_spanEnds 34 = .ok (.aload_n 0, 1) := by decide +kernel
theorem dX10_spanEnds_35 : decode cX10_spanEnds 35 = .ok (.iload_n 1, 1) := by decide +kernel
theorem dX10_spanEnds_36 : decode cX10_spanEnds 36 = .ok (.bipush 7, 2) := by decide +kernel
theorem dX10_spanEnds_38 : decode cX10_spanEnds 38 = .ok (.invokevirtual 69, 3) := by decide +kernel
theorem dX10_spanEnds_41 : decode cX10_spanEnds 41 = .ok (.lmul, 1) := by decide +kernel
theorem dX10_spanEnds_42 : decode cX10_spanEnds 42 = .ok (.lsub, 1) := by decide +kernel
theorem dX10_spanEnds_43 : decode cX10_spanEnds 43 = .ok (.lstore 6, 2) := by decide +kernel
theorem dX10_spanEnds_45 : decode cX10_spanEnds 45 = .ok (.lconst 0, 1) := by decide +kernel
theorem dX10_spanEnds_46 : decode cX10_spanEnds 46 = .ok (.ldc2_w 166, 3) := by decide +kernel
theorem dX10_spanEnds_49 : decode cX10_spanEnds 49 = .ok (.lload_n 2, 1) := by decide +kernel
theorem dX10_spanEnds_50 : decode cX10_spanEnds 50 = .ok (.lmul, 1) := by decide +kernel
theorem dX10_spanEnds_51 : decode cX10_spanEnds 51 = .ok (.lload 6, 2) := by decide +kernel
theorem dX10_spanEnds_53 : decode cX10_spanEnds 53 = .ok (.lconst 0, 1) := by decide +kernel
theorem dX10_spanEnds_54 : decode cX10_spanEnds 54 = .ok (.lcmp, 1) := by decide +kernel
theorem dX10_spanEnds_55 : decode cX10_spanEnds 55 = .ok (.ifCond .ge 9, 3) := by decide +kernel
theorem dX10_spanEnds_58 : decode cX10_spanEnds 58 = .ok (.lload 6, 2) := by decide +kernel
theorem dX10_spanEnds_60 : decode cX10_spanEnds 60 = .ok (.lneg, 1) := by decide +kernel
theorem dX10_spanEnds_61 : decode cX10_spanEnds 61 = .ok (.goto 5, 3) := by decide +kernel
theorem dX10_spanEnds_64 : decode cX10_spanEnds 64 = .ok (.lload 6, 2) := by decide +kernel
theorem dX10_spanEnds_66 : decode cX10_spanEnds 66 = .ok (.lsub, 1) := by decide +kernel
theorem dX10_spanEnds_67 : decode cX10_spanEnds 67 = .ok (.invokestatic 87, 3) := by decide +kernel
theorem dX10_spanEnds_70 : decode cX10_spanEnds 70 = .ok (.lstore 8, 2) := by decide +kernel
theorem dX10_spanEnds_72 : decode cX10_spanEnds 72 = .ok (.iconst 0, 1) := by decide +kernel
theorem dX10_spanEnds_73 : decode cX10_spanEnds 73 = .ok (.istore 10, 2) := by decide +kernel
theorem dX10_spanEnds_75 : decode cX10_spanEnds 75 = .ok (.aload_n 0, 1) := by decide +kernel
theorem dX10_spanEnds_76 : decode cX10_spanEnds 76 = .ok (.iload_n 1, 1) := by decide +kernel
theorem dX10_spanEnds_77 : decode cX10_spanEnds 77 = .ok (.bipush 8, 2) := by decide +kernel
theorem dX10_spanEnds_79 : decode cX10_spanEnds 79 = .ok (.invokestatic 44, 3) := by decide +kernel
theorem dX10_spanEnds_82 : decode cX10_spanEnds 82 = .ok (.lload 8, 2) := by decide +kernel
theorem dX10_spanEnds_84 : decode cX10_spanEnds 84 = .ok (.lconst 0, 1) := by decide +kernel
theorem dX10_spanEnds_85 : decode cX10_spanEnds 85 = .ok (.lload 6, 2) := by decide +kernel
theorem dX10_spanEnds_87 : decode cX10_spanEnds 87 = .ok (.invokestatic 87, 3) := by decide +kernel
theorem dX10_spanEnds_90 : decode cX10_spanEnds 90 = .ok (.ladd, 1) := by decide +kernel
theorem dX10_spanEnds_91 : decode cX10_spanEnds 91 = .ok (.invokevirtual 40, 3) := by decide +kernel
theorem dX10_spanEnds_94 : decode cX10_spanEnds 94 = .ok (.aload_n 0, 1) := by decide +kernel
theorem dX10_spanEnds_95 : decode cX10_spanEnds 95 = .ok (.iload_n 1, 1) := by decide +kernel
theorem dX10_spanEnds_96 : decode cX10_spanEnds 96 = .ok (.bipush 9, 2) := by decide +kernel
theorem dX10_spanEnds_98 : decode cX10_spanEnds 98 = .ok (.invokestatic 44, 3) := by decide +kernel
theorem dX10_spanEnds_101 : decode cX10_spanEnds 101 = .ok (.lload 8, 2) := by decide +kernel
theorem dX10_spanEnds_103 : decode cX10_spanEnds 103 = .ok (.lconst 0, 1) := by decide +kernel
theorem dX10_spanEnds_104 : decode cX10_spanEnds 104 = .ok (.lload 6, 2) := by decide +kernel
theorem dX10_spanEnds_106 : decode cX10_spanEnds 106 = .ok (.lneg, 1) := by decide +kernel
theorem dX10_spanEnds_107 : decode cX10_spanEnds 107 = .ok (.invokestatic 87, 3) := by decide +kernel
theorem dX10_spanEnds_110 : decode cX10_spanEnds 110 = .ok (.ladd, 1) := by decide +kernel
theorem dX10_spanEnds_111 : decode cX10_spanEnds 111 = .ok (.invokevirtual 40, 3) := by decide +kernel
theorem dX10_spanEnds_114 : decode cX10_spanEnds 114 = .ok (.aload_n 0, 1) := by decide +kernel
theorem dX10_spanEnds_115 : decode cX10_spanEnds 115 = .ok (.iload_n 1, 1) := by decide +kernel
theorem dX10_spanEnds_116 : decode cX10_spanEnds 116 = .ok (.bipush 10, 2) := by decide +kernel
theorem dX10_spanEnds_118 : decode cX10_spanEnds 118 = .ok (.invokestatic 44, 3) := by decide +kernel
theorem dX10_spanEnds_121 : decode cX10_spanEnds 121 = .ok (.lconst 1, 1) := by decide +kernel
theorem dX10_spanEnds_122 : decode cX10_spanEnds 122 = .ok (.aload_n 0, 1) := by decide +kernel
theorem dX10_spanEnds_123 : decode cX10_spanEnds 123 = .ok (.iload_n 1, 1) := by decide +kernel
theorem dX10_spanEnds_124 : decode cX10_spanEnds 124 = .ok (.bipush 18, 2) := by decide +kernel
theorem dX10_spanEnds_126 : decode cX10_spanEnds 126 = .ok (.invokevirtual 69, 3) := by decide +kernel
theorem dX10_spanEnds_129 : decode cX10_spanEnds 129 = .ok (.invokestatic 87, 3) := by decide +kernel
theorem dX10_spanEnds_132 : decode cX10_spanEnds 132 = .ok (.invokevirtual 40, 3) := by decide +kernel
theorem dX10_spanEnds_135 : decode cX10_spanEnds 135 = .ok (.aload_n 0, 1) := by decide +kernel
theorem dX10_spanEnds_136 : decode cX10_spanEnds 136 = .ok (.iload_n 1, 1) := by decide +kernel
theorem dX10_spanEnds_137 : decode cX10_spanEnds 137 = .ok (.bipush 11, 2) := by decide +kernel
theorem dX10_spanEnds_139 : decode cX10_spanEnds 139 = .ok (.invokestatic 44, 3) := by decide +kernel
theorem dX10_spanEnds_142 : decode cX10_spanEnds 142 = .ok (.lconst 1, 1) := by decide +kernel
theorem dX10_spanEnds_143 : decode cX10_spanEnds 143 = .ok (.lload_n 2, 1) := by decide +kernel
theorem dX10_spanEnds_144 : decode cX10_spanEnds 144 = .ok (.invokestatic 87, 3) := by decide +kernel
theorem dX10_spanEnds_147 : decode cX10_spanEnds 147 = .ok (.invokevirtual 40, 3) := by decide +kernel
theorem dX10_spanEnds_150 : decode cX10_spanEnds 150 = .ok (.aload_n 0, 1) := by decide +kernel
theorem dX10_spanEnds_151 : decode cX10_spanEnds 151 = .ok (.iload_n 1, 1) := by decide +kernel
theorem dX10_spanEnds_152 : decode cX10_spanEnds 152 = .ok (.bipush 12, 2) := by decide +kernel
theorem dX10_spanEnds_154 : decode cX10_spanEnds 154 = .ok (.invokestatic 44, 3) := by decide +kernel
theorem dX10_spanEnds_157 : decode cX10_spanEnds 157 = .ok (.lconst 0, 1) := by decide +kernel
theorem dX10_spanEnds_158 : decode cX10_spanEnds 158 = .ok (.invokevirtual 40, 3) := by decide +kernel
theorem dX10_spanEnds_161 : decode cX10_spanEnds 161 = .ok (.aload_n 0, 1) := by decide +kernel
theorem dX10_spanEnds_162 : decode cX10_spanEnds 162 = .ok (.iload_n 1, 1) := by decide +kernel
theorem dX10_spanEnds_163 : decode cX10_spanEnds 163 = .ok (.bipush 13, 2) := by decide +kernel
theorem dX10_spanEnds_165 : decode cX10_spanEnds 165 = .ok (.invokestatic 44, 3) := by decide +kernel
theorem dX10_spanEnds_168 : decode cX10_spanEnds 168 = .ok (.lconst 0, 1) := by decide +kernel
theorem dX10_spanEnds_169 : decode cX10_spanEnds 169 = .ok (.invokevirtual 40, 3) := by decide +kernel
theorem dX10_spanEnds_172 : decode cX10_spanEnds 172 = .ok (.iconst 0, 1) := by decide +kernel
theorem dX10_spanEnds_173 : decode cX10_spanEnds 173 = .ok (.istore 11, 2) := by decide +kernel
theorem dX10_spanEnds_175 : decode cX10_spanEnds 175 = .ok (.iload 11, 2) := by decide +kernel
theorem dX10_spanEnds_177 : decode cX10_spanEnds 177 = .ok (.i2l, 1) := by decide +kernel
theorem dX10_spanEnds_178 : decode cX10_spanEnds 178 = .ok (.aload_n 0, 1) := by decide +kernel
theorem dX10_spanEnds_179 : decode cX10_spanEnds 179 = .ok (.iconst 1, 1) := by decide +kernel
theorem dX10_spanEnds_180 : decode cX10_spanEnds 180 = .ok (.invokevirtual 48, 3) := by decide +kernel
theorem dX10_spanEnds_183 : decode cX10_spanEnds 183 = .ok (.lcmp, 1) := by decide +kernel
theorem dX10_spanEnds_184 : decode cX10_spanEnds 184 = .ok (.ifCond .ge 55, 3) := by decide +kernel
theorem dX10_spanEnds_187 : decode cX10_spanEnds 187 = .ok (.aload_n 0, 1) := by decide +kernel
theorem dX10_spanEnds_188 : decode cX10_spanEnds 188 = .ok (.iload_n 1, 1) := by decide +kernel
theorem dX10_spanEnds_189 : decode cX10_spanEnds 189 = .ok (.iload 11, 2) := by decide +kernel
theorem dX10_spanEnds_191 : decode cX10_spanEnds 191 = .ok (.invokevirtual 168, 3) := by decide +kernel
theorem dX10_spanEnds_194 : decode cX10_spanEnds 194 = .ok (.iload 10, 2) := by decide +kernel
theorem dX10_spanEnds_196 : decode cX10_spanEnds 196 = .ok (.aload_n 0, 1) := by decide +kernel
theorem dX10_spanEnds_197 : decode cX10_spanEnds 197 = .ok (.iload_n 1, 1) := by decide +kernel
theorem dX10_spanEnds_198 : decode cX10_spanEnds 198 = .ok (.bipush 20, 2) := by decide +kernel
theorem dX10_spanEnds_200 : decode cX10_spanEnds 200 = .ok (.iload 11, 2) := by decide +kernel
theorem dX10_spanEnds_202 : decode cX10_spanEnds 202 = .ok (.iadd, 1) := by decide +kernel
theorem dX10_spanEnds_203 : decode cX10_spanEnds 203 = .ok (.invokevirtual 69, 3) := by decide +kernel
theorem dX10_spanEnds_206 : decode cX10_spanEnds 206 = .ok (.lconst 0, 1) := by decide +kernel
theorem dX10_spanEnds_207 : decode cX10_spanEnds 207 = .ok (.lcmp, 1) := by decide +kernel
theorem dX10_spanEnds_208 : decode cX10_spanEnds 208 = .ok (.ifCond .le 7, 3) := by decide +kernel
theorem dX10_spanEnds_211 : decode cX10_spanEnds 211 = .ok (.iconst 1, 1) := by decide +kernel
theorem dX10_spanEnds_212 : decode cX10_spanEnds 212 = .ok (.goto 4, 3) := by decide +kernel
theorem dX10_spanEnds_215 : decode cX10_spanEnds 215 = .ok (.iconst 0, 1) := by decide +kernel
theorem dX10_spanEnds_216 : decode cX10_spanEnds 216 = .ok (.iadd, 1) := by decide +kernel
theorem dX10_spanEnds_217 : decode cX10_spanEnds 217 = .ok (.istore 10, 2) := by decide +kernel
theorem dX10_spanEnds_219 : decode cX10_spanEnds 219 = .ok (.aload_n 0, 1) := by decide +kernel
theorem dX10_spanEnds_220 : decode cX10_spanEnds 220 = .ok (.iload_n 1, 1) := by decide +kernel
theorem dX10_spanEnds_221 : decode cX10_spanEnds 221 = .ok (.bipush 20, 2) := by decide +kernel
theorem dX10_spanEnds_223 : decode cX10_spanEnds 223 = .ok (.iload 11, 2) := by decide +kernel
theorem dX10_spanEnds_225 : decode cX10_spanEnds 225 = .ok (.iadd, 1) := by decide +kernel
theorem dX10_spanEnds_226 : decode cX10_spanEnds 226 = .ok (.invokestatic 44, 3) := by decide +kernel
theorem dX10_spanEnds_229 : decode cX10_spanEnds 229 = .ok (.lconst 0, 1) := by decide +kernel
theorem dX10_spanEnds_230 : decode cX10_spanEnds 230 = .ok (.invokevirtual 40, 3) := by decide +kernel
theorem dX10_spanEnds_233 : decode cX10_spanEnds 233 = .ok (.iinc 11 1, 3) := by decide +kernel
theorem dX10_spanEnds_236 : decode cX10_spanEnds 236 = .ok (.goto (-61), 3) := by decide +kernel
theorem dX10_spanEnds_239 : decode cX10_spanEnds 239 = .ok (.aload_n 0, 1) := by decide +kernel
theorem dX10_spanEnds_240 : decode cX10_spanEnds 240 = .ok (.iload_n 1, 1) := by decide +kernel
theorem dX10_spanEnds_241 : decode cX10_spanEnds 241 = .ok (.bipush 15, 2) := by decide +kernel
theorem dX10_spanEnds_243 : decode cX10_spanEnds 243 = .ok (.invokestatic 44, 3) := by decide +kernel
theorem dX10_spanEnds_246 : decode cX10_spanEnds 246 = .ok (.lconst 1, 1) := by decide +kernel
theorem dX10_spanEnds_247 : decode cX10_spanEnds 247 = .ok (.lload 4, 2) := by decide +kernel
theorem dX10_spanEnds_249 : decode cX10_spanEnds 249 = .ok (.iconst 1, 1) := by decide +kernel
theorem dX10_spanEnds_250 : decode cX10_spanEnds 250 = .ok (.iload 10, 2) := by decide +kernel
theorem dX10_spanEnds_252 : decode cX10_spanEnds 252 = .ok (.invokestatic 171, 3) := by decide +kernel
theorem dX10_spanEnds_255 : decode cX10_spanEnds 255 = .ok (.i2l, 1) := by decide +kernel
theorem dX10_spanEnds_256 : decode cX10_spanEnds 256 = .ok (.ldiv, 1) := by decide +kernel
theorem dX10_spanEnds_257 : decode cX10_spanEnds 257 = .ok (.invokestatic 87, 3) := by decide +kernel
theorem dX10_spanEnds_260 : decode cX10_spanEnds 260 = .ok (.invokevirtual 40, 3) := by decide +kernel
theorem dX10_spanEnds_263 : decode cX10_spanEnds 263 = .ok (.aload_n 0, 1) := by decide +kernel
theorem dX10_spanEnds_264 : decode cX10_spanEnds 264 = .ok (.iload_n 1, 1) := by decide +kernel
theorem dX10_spanEnds_265 : decode cX10_spanEnds 265 = .ok (.bipush 6, 2) := by decide +kernel
theorem dX10_spanEnds_267 : decode cX10_spanEnds 267 = .ok (.invokestatic 44, 3) := by decide +kernel
theorem dX10_spanEnds_270 : decode cX10_spanEnds 270 = .ok (.lconst 0, 1) := by decide +kernel
theorem dX10_spanEnds_271 : decode cX10_spanEnds 271 = .ok (.invokevirtual 40, 3) := by decide +kernel
theorem dX10_spanEnds_274 : decode cX10_spanEnds 274 = .ok (.aload_n 0, 1) := by decide +kernel
theorem dX10_spanEnds_275 : decode cX10_spanEnds 275 = .ok (.iload_n 1, 1) := by decide +kernel
theorem dX10_spanEnds_276 : decode cX10_spanEnds 276 = .ok (.bipush 18, 2) := by decide +kernel
theorem dX10_spanEnds_278 : decode cX10_spanEnds 278 = .ok (.invokestatic 44, 3) := by decide +kernel
theorem dX10_spanEnds_281 : decode cX10_spanEnds 281 = .ok (.lconst 0, 1) := by decide +kernel
theorem dX10_spanEnds_282 : decode cX10_spanEnds 282 = .ok (.invokevirtual 40, 3) := by decide +kernel
theorem dX10_spanEnds_285 : decode cX10_spanEnds 285 = .ok (.aload_n 0, 1) := by decide +kernel
theorem dX10_spanEnds_286 : decode cX10_spanEnds 286 = .ok (.iload_n 1, 1) := by decide +kernel
theorem dX10_spanEnds_287 : decode cX10_spanEnds 287 = .ok (.bipush 7, 2) := by decide +kernel
theorem dX10_spanEnds_289 : decode cX10_spanEnds 289 = .ok (.invokestatic 44, 3) := by decide +kernel
theorem dX10_spanEnds_292 : decode cX10_spanEnds 292 = .ok (.aload_n 0, 1) := by decide +kernel
theorem dX10_spanEnds_293 : decode cX10_spanEnds 293 = .ok (.iload_n 1, 1) := by decide +kernel
theorem dX10_spanEnds_294 : decode cX10_spanEnds 294 = .ok (.iconst 2, 1) := by decide +kernel
theorem dX10_spanEnds_295 : decode cX10_spanEnds 295 = .ok (.invokevirtual 69, 3) := by decide +kernel
theorem dX10_spanEnds_298 : decode cX10_spanEnds 298 = .ok (.invokevirtual 40, 3) := by decide +kernel
theorem dX10_spanEnds_301 : decode cX10_spanEnds 301 = .ok (.aload_n 0, 1) := by decide +kernel
theorem dX10_spanEnds_302 : decode cX10_spanEnds 302 = .ok (.iload_n 1, 1) := by decide +kernel
theorem dX10_spanEnds_303 : decode cX10_spanEnds 303 = .ok (.bipush 17, 2) := by decide +kernel
theorem dX10_spanEnds_305 : decode cX10_spanEnds 305 = .ok (.invokestatic 44, 3) := by decide +kernel
theorem dX10_spanEnds_308 : decode cX10_spanEnds 308 = .ok (.aload_n 0, 1) := by decide +kernel
theorem dX10_spanEnds_309 : decode cX10_spanEnds 309 = .ok (.iload_n 1, 1) := by decide +kernel
theorem dX10_spanEnds_310 : decode cX10_spanEnds 310 = .ok (.bipush 16, 2) := by decide +kernel
theorem dX10_spanEnds_312 : decode cX10_spanEnds 312 = .ok (.invokevirtual 69, 3) := by decide +kernel
theorem dX10_spanEnds_315 : decode cX10_spanEnds 315 = .ok (.invokevirtual 40, 3) := by decide +kernel
theorem dX10_spanEnds_318 : decode cX10_spanEnds 318 = .ok (.aload_n 0, 1) := by decide +kernel
theorem dX10_spanEnds_319 : decode cX10_spanEnds 319 = .ok (.iload_n 1, 1) := by decide +kernel
theorem dX10_spanEnds_320 : decode cX10_spanEnds 320 = .ok (.bipush 16, 2) := by decide +kernel
theorem dX10_spanEnds_322 : decode cX10_spanEnds 322 = .ok (.invokestatic 44, 3) := by decide +kernel
theorem dX10_spanEnds_325 : decode cX10_spanEnds 325 = .ok (.lconst 0, 1) := by decide +kernel
theorem dX10_spanEnds_326 : decode cX10_spanEnds 326 = .ok (.invokevirtual 40, 3) := by decide +kernel
theorem dX10_spanEnds_329 : decode cX10_spanEnds 329 = .ok (.return_, 1) := by decide +kernel
theorem dX10_remembers_0 : decode cX10_remembers 0 = .ok (.aload_n 0, 1) := by decide +kernel
theorem dX10_remembers_1 : decode cX10_remembers 1 = .ok (.iconst 4, 1) := by decide +kernel
theorem dX10_remembers_2 : decode cX10_remembers 2 = .ok (.invokevirtual 48, 3) := by decide +kernel
theorem dX10_remembers_5 : decode cX10_remembers 5 = .ok (.ldc2_w 173, 3) := by decide +kernel
theorem dX10_remembers_8 : decode cX10_remembers 8 = .ok (.lcmp, 1) := by decide +kernel
theorem dX10_remembers_9 : decode cX10_remembers 9 = .ok (.ifCond .ne 41, 3) := by decide +kernel
theorem dX10_remembers_12 : decode cX10_remembers 12 = .ok (.sipush 5684, 3) := by decide +kernel
theorem dX10_remembers_15 : decode cX10_remembers 15 = .ok (.istore_n 1, 1) := by decide +kernel
theorem dX10_remembers_16 : decode cX10_remembers 16 = .ok (.iload_n 1, 1) := by decide +kernel
theorem dX10_remembers_17 : decode cX10_remembers 17 = .ok (.sipush 5798, 3) := by decide +kernel
theorem dX10_remembers_20 : decode cX10_remembers 20 = .ok (.if_icmp .ge 22, 3) := by decide +kernel
theorem dX10_remembers_23 : decode cX10_remembers 23 = .ok (.aload_n 0, 1) := by decide +kernel
theorem dX10_remembers_24 : decode cX10_remembers 24 = .ok (.iload_n 1, 1) := by decide +kernel
theorem dX10_remembers_25 : decode cX10_remembers 25 = .ok (.aload_n 0, 1) := by decide +kernel
theorem dX10_remembers_26 : decode cX10_remembers 26 = .ok (.iload_n 1, 1) := by decide +kernel
theorem dX10_remembers_27 : decode cX10_remembers 27 = .ok (.bipush 6, 2) := by decide +kernel
theorem dX10_remembers_29 : decode cX10_remembers 29 = .ok (.iadd, 1) := by decide +kernel
theorem dX10_remembers_30 : decode cX10_remembers 30 = .ok (.invokevirtual 48, 3) := by decide +kernel
theorem dX10_remembers_33 : decode cX10_remembers 33 = .ok (.invokevirtual 40, 3) := by decide +kernel
theorem dX10_remembers_36 : decode cX10_remembers 36 = .ok (.iinc 1 1, 3) := by decide +kernel
theorem dX10_remembers_39 : decode cX10_remembers 39 = .ok (.goto (-23), 3) := by decide +kernel
theorem dX10_remembers_42 : decode cX10_remembers 42 = .ok (.aload_n 0, 1) := by decide +kernel
theorem dX10_remembers_43 : decode cX10_remembers 43 = .ok (.iconst 4, 1) := by decide +kernel
theorem dX10_remembers_44 : decode cX10_remembers 44 = .ok (.ldc2_w 74, 3) := by decide +kernel
theorem dX10_remembers_47 : decode cX10_remembers 47 = .ok (.invokevirtual 76, 3) := by decide +kernel
theorem dX10_remembers_50 : decode cX10_remembers 50 = .ok (.iconst 0, 1) := by decide +kernel
theorem dX10_remembers_51 : decode cX10_remembers 51 = .ok (.istore_n 1, 1) := by decide +kernel
theorem dX10_remembers_52 : decode cX10_remembers 52 = .ok (.iload_n 1, 1) := by decide +kernel
theorem dX10_remembers_53 : decode cX10_remembers 53 = .ok (.bipush 6, 2) := by decide +kernel
theorem dX10_remembers_55 : decode cX10_remembers 55 = .ok (.if_icmp .ge 33, 3) := by decide +kernel
theorem dX10_remembers_58 : decode cX10_remembers 58 = .ok (.aload_n 0, 1) := by decide +kernel
theorem dX10_remembers_59 : decode cX10_remembers 59 = .ok (.sipush 5684, 3) := by decide +kernel
theorem dX10_remembers_62 : decode cX10_remembers 62 = .ok (.bipush 6, 2) := by decide +kernel
theorem dX10_remembers_64 : decode cX10_remembers 64 = .ok (.aload_n 0, 1) := by decide +kernel
theorem dX10_remembers_65 : decode cX10_remembers 65 = .ok (.iconst 4, 1) := by decide +kernel
theorem dX10_remembers_66 : decode cX10_remembers 66 = .ok (.invokevirtual 58, 3) := by decide +kernel
theorem dX10_remembers_69 : decode cX10_remembers 69 = .ok (.imul, 1) := by decide +kernel
theorem dX10_remembers_70 : decode cX10_remembers 70 = .ok (.iadd, 1) := by decide +kernel
theorem dX10_remembers_71 : decode cX10_remembers 71 = .ok (.iload_n 1, 1) := by decide +kernel
theorem dX10_remembers_72 : decode cX10_remembers 72 = .ok (.iadd, 1) := by decide +kernel
theorem dX10_remembers_73 : decode cX10_remembers 73 = .ok (.aload_n 0, 1) := by decide +kernel
theorem dX10_remembers_74 : decode cX10_remembers 74 = .ok (.iload_n 1, 1) := by decide +kernel
theorem dX10_remembers_75 : decode cX10_remembers 75 = .ok (.iconst 5, 1) := by decide +kernel
theorem dX10_remembers_76 : decode cX10_remembers 76 = .ok (.invokevirtual 62, 3) := by decide +kernel
theorem dX10_remembers_79 : decode cX10_remembers 79 = .ok (.invokevirtual 40, 3) := by decide +kernel
theorem dX10_remembers_82 : decode cX10_remembers 82 = .ok (.iinc 1 1, 3) := by decide +kernel
theorem dX10_remembers_85 : decode cX10_remembers 85 = .ok (.goto (-33), 3) := by decide +kernel
theorem dX10_remembers_88 : decode cX10_remembers 88 = .ok (.aload_n 0, 1) := by decide +kernel
theorem dX10_remembers_89 : decode cX10_remembers 89 = .ok (.iconst 4, 1) := by decide +kernel
theorem dX10_remembers_90 : decode cX10_remembers 90 = .ok (.lconst 1, 1) := by decide +kernel
theorem dX10_remembers_91 : decode cX10_remembers 91 = .ok (.invokevirtual 76, 3) := by decide +kernel
theorem dX10_remembers_94 : decode cX10_remembers 94 = .ok (.return_, 1) := by decide +kernel
theorem dX10_ticks_0 : decode cX10_ticks 0 = .ok (.aload_n 0, 1) := by decide +kernel
theorem dX10_ticks_1 : decode cX10_ticks 1 = .ok (.iconst 2, 1) := by decide +kernel
theorem dX10_ticks_2 : decode cX10_ticks 2 = .ok (.lconst 1, 1) := by decide +kernel
theorem dX10_ticks_3 : decode cX10_ticks 3 = .ok (.invokevirtual 76, 3) := by decide +kernel
theorem dX10_ticks_6 : decode cX10_ticks 6 = .ok (.aload_n 0, 1) := by decide +kernel
theorem dX10_ticks_7 : decode cX10_ticks 7 = .ok (.invokevirtual 175, 3) := by decide +kernel
theorem dX10_ticks_10 : decode cX10_ticks 10 = .ok (.iconst 0, 1) := by decide +kernel
theorem dX10_ticks_11 : decode cX10_ticks 11 = .ok (.istore_n 1, 1) := by decide +kernel
theorem dX10_ticks_12 : decode cX10_ticks 12 = .ok (.iload_n 1, 1) := by decide +kernel
theorem dX10_ticks_13 : decode cX10_ticks 13 = .ok (.i2l, 1) := by decide +kernel
theorem dX10_ticks_14 : decode cX10_ticks 14 = .ok (.aload_n 0, 1) := by decide +kernel
theorem dX10_ticks_15 : decode cX10_ticks 15 = .ok (.iconst 0, 1) := by decide +kernel
theorem dX10_ticks_16 : decode cX10_ticks 16 = .ok (.invokevirtual 48, 3) := by decide +kernel
theorem dX10_ticks_19 : decode cX10_ticks 19 = .ok (.lcmp, 1) := by decide +kernel
theorem dX10_ticks_20 : decode cX10_ticks 20 = .ok (.ifCond .ge 14, 3) := by decide +kernel
theorem dX10_ticks_23 : decode cX10_ticks 23 = .ok (.aload_n 0, 1) := by decide +kernel
theorem dX10_ticks_24 : decode cX10_ticks 24 = .ok (.iload_n 1, 1) := by decide +kernel
theorem dX10_ticks_25 : decode cX10_ticks 25 = .ok (.invokevirtual 178, 3) := by decide +kernel
theorem dX10_ticks_28 : decode cX10_ticks 28 = .ok (.iinc 1 1, 3) := by decide +kernel
theorem dX10_ticks_31 : decode cX10_ticks 31 = .ok (.goto (-19), 3) := by decide +kernel
theorem dX10_ticks_34 : decode cX10_ticks 34 = .ok (.iconst 0, 1) := by decide +kernel
theorem dX10_ticks_35 : decode cX10_ticks 35 = .ok (.istore_n 1, 1) := by decide +kernel
theorem dX10_ticks_36 : decode cX10_ticks 36 = .ok (.iload_n 1, 1) := by decide +kernel
theorem dX10_ticks_37 : decode cX10_ticks 37 = .ok (.i2l, 1) := by decide +kernel
theorem dX10_ticks_38 : decode cX10_ticks 38 = .ok (.aload_n 0, 1) := by decide +kernel
theorem dX10_ticks_39 : decode cX10_ticks 39 = .ok (.iconst 1, 1) := by decide +kernel
theorem dX10_ticks_40 : decode cX10_ticks 40 = .ok (.invokevirtual 48, 3) := by decide +kernel
theorem dX10_ticks_43 : decode cX10_ticks 43 = .ok (.lcmp, 1) := by decide +kernel
theorem dX10_ticks_44 : decode cX10_ticks 44 = .ok (.ifCond .ge 22, 3) := by decide +kernel
theorem dX10_ticks_47 : decode cX10_ticks 47 = .ok (.aload_n 0, 1) := by decide +kernel
theorem dX10_ticks_48 : decode cX10_ticks 48 = .ok (.iload_n 1, 1) := by decide +kernel
theorem dX10_ticks_49 : decode cX10_ticks 49 = .ok (.invokevirtual 181, 3) := by decide +kernel
theorem dX10_ticks_52 : decode cX10_ticks 52 = .ok (.ifCond .eq 8, 3) := by decide +kernel
theorem dX10_ticks_55 : decode cX10_ticks 55 = .ok (.aload_n 0, 1) := by decide +kernel
theorem dX10_ticks_56 : decode cX10_ticks 56 = .ok (.iload_n 1, 1) := by decide +kernel
theorem dX10_ticks_57 : decode cX10_ticks 57 = .ok (.invokevirtual 184, 3) := by decide +kernel
theorem dX10_ticks_60 : decode cX10_ticks 60 = .ok (.iinc 1 1, 3) := by decide +kernel
theorem dX10_ticks_63 : decode cX10_ticks 63 = .ok (.goto (-27), 3) := by decide +kernel
theorem dX10_ticks_66 : decode cX10_ticks 66 = .ok (.iconst 0, 1) := by decide +kernel
theorem dX10_ticks_67 : decode cX10_ticks 67 = .ok (.istore_n 1, 1) := by decide +kernel
theorem dX10_ticks_68 : decode cX10_ticks 68 = .ok (.iload_n 1, 1) := by decide +kernel
theorem dX10_ticks_69 : decode cX10_ticks 69 = .ok (.i2l, 1) := by decide +kernel
theorem dX10_ticks_70 : decode cX10_ticks 70 = .ok (.aload_n 0, 1) := by decide +kernel
theorem dX10_ticks_71 : decode cX10_ticks 71 = .ok (.iconst 0, 1) := by decide +kernel
theorem dX10_ticks_72 : decode cX10_ticks 72 = .ok (.invokevirtual 48, 3) := by decide +kernel
theorem dX10_ticks_75 : decode cX10_ticks 75 = .ok (.lcmp, 1) := by decide +kernel
theorem dX10_ticks_76 : decode cX10_ticks 76 = .ok (.ifCond .ge 14, 3) := by decide +kernel
theorem dX10_ticks_79 : decode cX10_ticks 79 = .ok (.aload_n 0, 1) := by decide +kernel
theorem dX10_ticks_80 : decode cX10_ticks 80 = .ok (.iload_n 1, 1) := by decide +kernel
theorem dX10_ticks_81 : decode cX10_ticks 81 = .ok (.invokevirtual 187, 3) := by decide +kernel
theorem dX10_ticks_84 : decode cX10_ticks 84 = .ok (.iinc 1 1, 3) := by decide +kernel
theorem dX10_ticks_87 : decode cX10_ticks 87 = .ok (.goto (-19), 3) := by decide +kernel
theorem dX10_ticks_90 : decode cX10_ticks 90 = .ok (.iconst 0, 1) := by decide +kernel
theorem dX10_ticks_91 : decode cX10_ticks 91 = .ok (.istore_n 1, 1) := by decide +kernel
theorem dX10_ticks_92 : decode cX10_ticks 92 = .ok (.iload_n 1, 1) := by decide +kernel
theorem dX10_ticks_93 : decode cX10_ticks 93 = .ok (.i2l, 1) := by decide +kernel
theorem dX10_ticks_94 : decode cX10_ticks 94 = .ok (.aload_n 0, 1) := by decide +kernel
theorem dX10_ticks_95 : decode cX10_ticks 95 = .ok (.iconst 0, 1) := by decide +kernel
theorem dX10_ticks_96 : decode cX10_ticks 96 = .ok (.invokevirtual 48, 3) := by decide +kernel
theorem dX10_ticks_99 : decode cX10_ticks 99 = .ok (.lcmp, 1) := by decide +kernel
theorem dX10_ticks_100 : decode cX10_ticks 100 = .ok (.ifCond .ge 31, 3) := by decide +kernel
theorem dX10_ticks_103 : decode cX10_ticks 103 = .ok (.aload_n 0, 1) := by decide +kernel
theorem dX10_ticks_104 : decode cX10_ticks 104 = .ok (.iconst 2, 1) := by decide +kernel
theorem dX10_ticks_105 : decode cX10_ticks 105 = .ok (.invokevirtual 48, 3) := by decide +kernel
theorem dX10_ticks_108 : decode cX10_ticks 108 = .ok (.aload_n 0, 1) := by decide +kernel
theorem dX10_ticks_109 : decode cX10_ticks 109 = .ok (.iload_n 1, 1) := by decide +kernel
theorem dX10_ticks_110 : decode cX10_ticks 110 = .ok (.iconst 3, 1) := by decide +kernel
theorem dX10_ticks_111 : decode cX10_ticks 111 = .ok (.invokevirtual 69, 3) := by decide +kernel
theorem dX10_ticks_114 : decode cX10_ticks 114 = .ok (.lrem, 1) := by decide +kernel
theorem dX10_ticks_115 : decode cX10_ticks 115 = .ok (.lconst 0, 1) := by decide +kernel
theorem dX10_ticks_116 : decode cX10_ticks 116 = .ok (.lcmp, 1) := by decide +kernel
theorem dX10_ticks_117 : decode cX10_ticks 117 = .ok (.ifCond .ne 8, 3) := by decide +kernel
theorem dX10_ticks_120 : decode cX10_ticks 120 = .ok (.aload_n 0, 1) := by decide +kernel
theorem dX10_ticks_121 : decode cX10_ticks 121 = .ok (.iload_n 1, 1) := by decide +kernel
theorem dX10_ticks_122 : decode cX10_ticks 122 = .ok (.invokevirtual 190, 3) := by decide +kernel
theorem dX10_ticks_125 : decode cX10_ticks 125 = .ok (.iinc 1 1, 3) := by decide +kernel
theorem dX10_ticks_128 : decode cX10_ticks 128 = .ok (.goto (-36), 3) := by decide +kernel
theorem dX10_ticks_131 : decode cX10_ticks 131 = .ok (.aload_n 0, 1) := by decide +kernel
theorem dX10_ticks_132 : decode cX10_ticks 132 = .ok (.invokevirtual 193, 3) := by decide +kernel
theorem dX10_ticks_135 : decode cX10_ticks 135 = .ok (.return_, 1) := by decide +kernel
theorem dX10_ticks__0 : decode cX10_ticks_ 0 = .ok (.iconst 0, 1) := by decide +kernel
theorem dX10_ticks__1 : decode cX10_ticks_ 1 = .ok (.istore_n 2, 1) := by decide +kernel
theorem dX10_ticks__2 : decode cX10_ticks_ 2 = .ok (.iload_n 2, 1) := by decide +kernel
theorem dX10_ticks__3 : decode cX10_ticks_ 3 = .ok (.iload_n 1, 1) := by decide +kernel
theorem dX10_ticks__4 : decode cX10_ticks_ 4 = .ok (.if_icmp .ge 13, 3) := by decide +kernel
theorem dX10_ticks__7 : decode cX10_ticks_ 7 = .ok (.aload_n 0, 1) := by decide +kernel
theorem dX10_ticks__8 : decode cX10_ticks_ 8 = .ok (.invokevirtual 196, 3) := by decide +kernel
theorem dX10_ticks__11 : decode cX10_ticks_ 11 = .ok (.iinc 2 1, 3) := by decide +kernel
theorem dX10_ticks__14 : decode cX10_ticks_ 14 = .ok (.goto (-12), 3) := by decide +kernel
theorem dX10_ticks__17 : decode cX10_ticks_ 17 = .ok (.return_, 1) := by decide +kernel
theorem dX10_feed_0 : decode cX10_feed 0 = .ok (.aload_n 0, 1) := by decide +kernel
theorem dX10_feed_1 : decode cX10_feed 1 = .ok (.getfield 199, 3) := by decide +kernel
theorem dX10_feed_4 : decode cX10_feed 4 = .ok (.sipush 580, 3) := by decide +kernel
theorem dX10_feed_7 : decode cX10_feed 7 = .ok (.if_icmp .le 5, 3) := by decide +kernel
theorem dX10_feed_10 : decode cX10_feed 10 = .ok (.iconst (-1), 1) := by decide +kernel
theorem dX10_feed_11 : decode cX10_feed 11 = .ok (.ireturn, 1) := by decide +kernel
theorem dX10_feed_12 : decode cX10_feed 12 = .ok (.aload_n 0, 1) := by decide +kernel
theorem dX10_feed_13 : decode cX10_feed 13 = .ok (.iload_n 1, 1) := by decide +kernel
theorem dX10_feed_14 : decode cX10_feed 14 = .ok (.invokevirtual 202, 3) := by decide +kernel
theorem dX10_feed_17 : decode cX10_feed 17 = .ok (.aload_n 0, 1) := by decide +kernel
theorem dX10_feed_18 : decode cX10_feed 18 = .ok (.iload_n 2, 1) := by decide +kernel
theorem dX10_feed_19 : decode cX10_feed 19 = .ok (.invokevirtual 202, 3) := by decide +kernel
theorem dX10_feed_22 : decode cX10_feed 22 = .ok (.aload_n 0, 1) := by decide +kernel
theorem dX10_feed_23 : decode cX10_feed 23 = .ok (.iload_n 3, 1) := by decide +kernel
theorem dX10_feed_24 : decode cX10_feed 24 = .ok (.invokevirtual 202, 3) := by decide +kernel
theorem dX10_feed_27 : decode cX10_feed 27 = .ok (.aload_n 0, 1) := by decide +kernel
theorem dX10_feed_28 : decode cX10_feed 28 = .ok (.iload 4, 2) := by decide +kernel
theorem dX10_feed_30 : decode cX10_feed 30 = .ok (.invokevirtual 202, 3) := by decide +kernel
theorem dX10_feed_33 : decode cX10_feed 33 = .ok (.aload_n 0, 1) := by decide +kernel
theorem dX10_feed_34 : decode cX10_feed 34 = .ok (.iload 5, 2) := by decide +kernel
theorem dX10_feed_36 : decode cX10_feed 36 = .ok (.invokevirtual 202, 3) := by decide +kernel
theorem dX10_feed_39 : decode cX10_feed 39 = .ok (.aload_n 0, 1) := by decide +kernel
theorem dX10_feed_40 : decode cX10_feed 40 = .ok (.getfield 199, 3) := by decide +kernel
theorem dX10_feed_43 : decode cX10_feed 43 = .ok (.ireturn, 1) := by decide +kernel
theorem dX10_four_0 : decode cX10_four 0 = .ok (.iconst 3, 1) := by decide +kernel
theorem dX10_four_1 : decode cX10_four 1 = .ok (.istore_n 2, 1) := by decide +kernel
theorem dX10_four_2 : decode cX10_four 2 = .ok (.iload_n 2, 1) := by decide +kernel
theorem dX10_four_3 : decode cX10_four 3 = .ok (.ifCond .lt 35, 3) := by decide +kernel
theorem dX10_four_6 : decode cX10_four 6 = .ok (.aload_n 0, 1) := by decide +kernel
theorem dX10_four_7 : decode cX10_four 7 = .ok (.getfield 13, 3) := by decide +kernel
theorem dX10_four_10 : decode cX10_four 10 = .ok (.aload_n 0, 1) := by decide +kernel
theorem dX10_four_11 : decode cX10_four 11 = .ok (.getfield 199, 3) := by decide +kernel
theorem dX10_four_14 : decode cX10_four 14 = .ok (.iload_n 1, 1) := by decide +kernel
theorem dX10_four_15 : decode cX10_four 15 = .ok (.bipush 8, 2) := by decide +kernel
theorem dX10_four_17 : decode cX10_four 17 = .ok (.iload_n 2, 1) := by decide +kernel
theorem dX10_four_18 : decode cX10_four 18 = .ok (.imul, 1) := by decide +kernel
theorem dX10_four_19 : decode cX10_four 19 = .ok (.ishr, 1) := by decide +kernel
theorem dX10_four_20 : decode cX10_four 20 = .ok (.i2b, 1) := by decide +kernel
theorem dX10_four_21 : decode cX10_four 21 = .ok (.bastore, 1) := by decide +kernel
theorem dX10_four_22 : decode cX10_four 22 = .ok (.aload_n 0, 1) := by decide +kernel
theorem dX10_four_23 : decode cX10_four 23 = .ok (.dup, 1) := by decide +kernel
theorem dX10_four_24 : decode cX10_four 24 = .ok (.getfield 199, 3) := by decide +kernel
theorem dX10_four_27 : decode cX10_four 27 = .ok (.iconst 1, 1) := by decide +kernel
theorem dX10_four_28 : decode cX10_four 28 = .ok (.iadd, 1) := by decide +kernel
theorem dX10_four_29 : decode cX10_four 29 = .ok (.putfield 199, 3) := by decide +kernel
theorem dX10_four_32 : decode cX10_four 32 = .ok (.iinc 2 (-1), 3) := by decide +kernel
theorem dX10_four_35 : decode cX10_four 35 = .ok (.goto (-33), 3) := by decide +kernel
theorem dX10_four_38 : decode cX10_four 38 = .ok (.return_, 1) := by decide +kernel
theorem dX10_byteAt_0 : decode cX10_byteAt 0 = .ok (.iload_n 1, 1) := by decide +kernel
theorem dX10_byteAt_1 : decode cX10_byteAt 1 = .ok (.aload_n 0, 1) := by decide +kernel
theorem dX10_byteAt_2 : decode cX10_byteAt 2 = .ok (.getfield 205, 3) := by decide +kernel
theorem dX10_byteAt_5 : decode cX10_byteAt 5 = .ok (.if_icmp .ge 16, 3) := by decide +kernel
theorem dX10_byteAt_8 : decode cX10_byteAt 8 = .ok (.aload_n 0, 1) := by decide +kernel
theorem dX10_byteAt_9 : decode cX10_byteAt 9 = .ok (.getfield 17, 3) := by decide +kernel
theorem dX10_byteAt_12 : decode cX10_byteAt 12 = .ok (.iload_n 1, 1) := by decide +kernel
theorem dX10_byteAt_13 : decode cX10_byteAt 13 = .ok (.baload, 1) := by decide +kernel
theorem dX10_byteAt_14 : decode cX10_byteAt 14 = .ok (.sipush 255, 3) := by decide +kernel
theorem dX10_byteAt_17 : decode cX10_byteAt 17 = .ok (.iand, 1) := by decide +kernel
theorem dX10_byteAt_18 : decode cX10_byteAt 18 = .ok (.goto 4, 3) := by decide +kernel
theorem dX10_byteAt_21 : decode cX10_byteAt 21 = .ok (.iconst (-1), 1) := by decide +kernel
theorem dX10_byteAt_22 : decode cX10_byteAt 22 = .ok (.ireturn, 1) := by decide +kernel
theorem dX10_isSmall_0 : decode cX10_isSmall 0 = .ok (.iload_n 0, 1) := by decide +kernel
theorem dX10_isSmall_1 : decode cX10_isSmall 1 = .ok (.bipush 97, 2) := by decide +kernel
theorem dX10_isSmall_3 : decode cX10_isSmall 3 = .ok (.if_icmp .lt 13, 3) := by decide +kernel
theorem dX10_isSmall_6 : decode cX10_isSmall 6 = .ok (.iload_n 0, 1) := by decide +kernel
theorem dX10_isSmall_7 : decode cX10_isSmall 7 = .ok (.bipush 122, 2) := by decide +kernel
theorem dX10_isSmall_9 : decode cX10_isSmall 9 = .ok (.if_icmp .gt 7, 3) := by decide +kernel
theorem dX10_isSmall_12 : decode cX10_isSmall 12 = .ok (.iconst 1, 1) := by decide +kernel
theorem dX10_isSmall_13 : decode cX10_isSmall 13 = .ok (.goto 4, 3) := by decide +kernel
theorem dX10_isSmall_16 : decode cX10_isSmall 16 = .ok (.iconst 0, 1) := by decide +kernel
theorem dX10_isSmall_17 : decode cX10_isSmall 17 = .ok (.ireturn, 1) := by decide +kernel
theorem dX10_isDigit_0 : decode cX10_isDigit 0 = .ok (.iload_n 0, 1) := by decide +kernel
theorem dX10_isDigit_1 : decode cX10_isDigit 1 = .ok (.bipush 48, 2) := by decide +kernel
theorem dX10_isDigit_3 : decode cX10_isDigit 3 = .ok (.if_icmp .lt 13, 3) := by decide +kernel
theorem dX10_isDigit_6 : decode cX10_isDigit 6 = .ok (.iload_n 0, 1) := by decide +kernel
theorem dX10_isDigit_7 : decode cX10_isDigit 7 = .ok (.bipush 57, 2) := by decide +kernel
theorem dX10_isDigit_9 : decode cX10_isDigit 9 = .ok (.if_icmp .gt 7, 3) := by decide +kernel
theorem dX10_isDigit_12 : decode cX10_isDigit 12 = .ok (.iconst 1, 1) := by decide +kernel
theorem dX10_isDigit_13 : decode cX10_isDigit 13 = .ok (.goto 4, 3) := by decide +kernel
theorem dX10_isDigit_16 : decode cX10_isDigit 16 = .ok (.iconst 0, 1) := by decide +kernel
theorem dX10_isDigit_17 : decode cX10_isDigit 17 = .ok (.ireturn, 1) := by decide +kernel
theorem dX10_ahead_0 : decode cX10_ahead 0 = .ok (.aload_n 0, 1) := by decide +kernel
theorem dX10_ahead_1 : decode cX10_ahead 1 = .ok (.aload_n 0, 1) := by decide +kernel
theorem dX10_ahead_2 : decode cX10_ahead 2 = .ok (.getfield 208, 3) := by decide +kernel
theorem dX10_ahead_5 : decode cX10_ahead 5 = .ok (.invokevirtual 211, 3) := by decide +kernel
theorem dX10_ahead_8 : decode cX10_ahead 8 = .ok (.bipush 32, 2) := by decide +kernel
theorem dX10_ahead_10 : decode cX10_ahead 10 = .ok (.if_icmp .eq 16, 3) := by decide +kernel
theorem dX10_ahead_13 : decode cX10_ahead 13 = .ok (.aload_n 0, 1) := by decide +kernel
theorem dX10_ahead_14 : decode cX10_ahead 14 = .ok (.aload_n 0, 1) := by decide +kernel
theorem dX10_ahead_15 : decode cX10_ahead 15 = .ok (.getfield 208, 3) := by decide +kernel
theorem dX10_ahead_18 : decode cX10_ahead 18 = .ok (.invokevirtual 211, 3) := by decide +kernel
theorem dX10_ahead_21 : decode cX10_ahead 21 = .ok (.bipush 10, 2) := by decide +kernel
theorem dX10_ahead_23 : decode cX10_ahead 23 = .ok (.if_icmp .ne 16, 3) := by decide +kernel
theorem dX10_ahead_26 : decode cX10_ahead 26 = .ok (.aload_n 0, 1) := by decide +kernel
theorem dX10_ahead_27 : decode cX10_ahead 27 = .ok (.dup, 1) := by decide +kernel
theorem dX10_ahead_28 : decode cX10_ahead 28 = .ok (.getfield 208, 3) := by decide +kernel
theorem dX10_ahead_31 : decode cX10_ahead 31 = .ok (.iconst 1, 1) := by decide +kernel
theorem dX10_ahead_32 : decode cX10_ahead 32 = .ok (.iadd, 1) := by decide +kernel
theorem dX10_ahead_33 : decode cX10_ahead 33 = .ok (.putfield 208, 3) := by decide +kernel
theorem dX10_ahead_36 : decode cX10_ahead 36 = .ok (.goto (-36), 3) := by decide +kernel
theorem dX10_ahead_39 : decode cX10_ahead 39 = .ok (.aload_n 0, 1) := by decide +kernel
theorem dX10_ahead_40 : decode cX10_ahead 40 = .ok (.aload_n 0, 1) := by decide +kernel
theorem dX10_ahead_41 : decode cX10_ahead 41 = .ok (.getfield 208, 3) := by decide +kernel
theorem dX10_ahead_44 : decode cX10_ahead 44 = .ok (.putfield 214, 3) := by decide +kernel
theorem dX10_ahead_47 : decode cX10_ahead 47 = .ok (.aload_n 0, 1) := by decide +kernel
theorem dX10_ahead_48 : decode cX10_ahead 48 = .ok (.aload_n 0, 1) := by decide +kernel
theorem dX10_ahead_49 : decode cX10_ahead 49 = .ok (.getfield 208, 3) := by decide +kernel
theorem dX10_ahead_52 : decode cX10_ahead 52 = .ok (.invokevirtual 211, 3) := by decide +kernel
theorem dX10_ahead_55 : decode cX10_ahead 55 = .ok (.istore_n 1, 1) := by decide +kernel
theorem dX10_ahead_56 : decode cX10_ahead 56 = .ok (.iload_n 1, 1) := by decide +kernel
theorem dX10_ahead_57 : decode cX10_ahead 57 = .ok (.iconst (-1), 1) := by decide +kernel
theorem dX10_ahead_58 : decode cX10_ahead 58 = .ok (.if_icmp .ne 11, 3) := by decide +kernel
theorem dX10_ahead_61 : decode cX10_ahead 61 = .ok (.aload_n 0, 1) := by decide +kernel
theorem dX10_ahead_62 : decode cX10_ahead 62 = .ok (.iconst 0, 1) := by decide +kernel
theorem dX10_ahead_63 : decode cX10_ahead 63 = .ok (.putfield 217, 3) := by decide +kernel
theorem dX10_ahead_66 : decode cX10_ahead 66 = .ok (.goto 162, 3) := by decide +kernel
theorem dX10_ahead_69 : decode cX10_ahead 69 = .ok (.iload_n 1, 1) := by decide +kernel
theorem dX10_ahead_70 : decode cX10_ahead 70 = .ok (.invokestatic 220, 3) := by decide +kernel
theorem dX10_ahead_73 : decode cX10_ahead 73 = .ok (.ifCond .eq 38, 3) := by decide +kernel
theorem dX10_ahead_76 : decode cX10_ahead 76 = .ok (.aload_n 0, 1) := by decide +kernel
theorem dX10_ahead_77 : decode cX10_ahead 77 = .ok (.aload_n 0, 1) := by decide +kernel
theorem dX10_ahead_78 : decode cX10_ahead 78 = .ok (.getfield 208, 3) := by decide +kernel
theorem dX10_ahead_81 : decode cX10_ahead 81 = .ok (.invokevirtual 211, 3) := by decide +kernel
theorem dX10_ahead_84 : decode cX10_ahead 84 = .ok (.invokestatic 220, 3) := by decide +kernel
theorem dX10_ahead_87 : decode cX10_ahead 87 = .ok (.ifCond .eq 16, 3) := by decide +kernel
theorem dX10_ahead_90 : decode cX10_ahead 90 = .ok (.aload_n 0, 1) := by decide +kernel
theorem dX10_ahead_91 : decode cX10_ahead 91 = .ok (.dup, 1) := by decide +kernel
theorem dX10_ahead_92 : decode cX10_ahead 92 = .ok (.getfield 208, 3) := by decide +kernel
theorem dX10_ahead_95 : decode cX10_ahead 95 = .ok (.iconst 1, 1) := by decide +kernel
theorem dX10_ahead_96 : decode cX10_ahead 96 = .ok (.iadd, 1) := by decide +kernel
theorem dX10_ahead_97 : decode cX10_ahead 97 = .ok (.putfield 208, 3) := by decide +kernel
theorem dX10_ahead_100 : decode cX10_ahead 100 = .ok (.goto (-24), 3) := by decide +kernel
theorem dX10_ahead_103 : decode cX10_ahead 103 = .ok (.aload_n 0, 1) := by decide +kernel
theorem dX10_ahead_104 : decode cX10_ahead 104 = .ok (.iconst 2, 1) := by decide +kernel
theorem dX10_ahead_105 : decode cX10_ahead 105 = .ok (.putfield 217, 3) := by decide +kernel
theorem dX10_ahead_108 : decode cX10_ahead 108 = .ok (.goto 120, 3) := by decide +kernel
theorem dX10_ahead_111 : decode cX10_ahead 111 = .ok (.iload_n 1, 1) := by decide +kernel
theorem dX10_ahead_112 : decode cX10_ahead 112 = .ok (.invokestatic 223, 3) := by decide +kernel
theorem dX10_ahead_115 : decode cX10_ahead 115 = .ok (.ifCond .eq 88, 3) := by decide +kernel
theorem dX10_ahead_118 : decode cX10_ahead 118 = .ok (.aload_n 0, 1) := by decide +kernel
theorem dX10_ahead_119 : decode cX10_ahead 119 = .ok (.iconst 0, 1) := by decide +kernel
theorem dX10_ahead_120 : decode cX10_ahead 120 = .ok (.putfield 226, 3) := by decide +kernel
theorem dX10_ahead_123 : decode cX10_ahead 123 = .ok (.aload_n 0, 1) := by decide +kernel
theorem dX10_ahead_124 : decode cX10_ahead 124 = .ok (.aload_n 0, 1) := by decide +kernel
theorem dX10_ahead_125 : decode cX10_ahead 125 = .ok (.getfield 208, 3) := by decide +kernel
theorem dX10_ahead_128 : decode cX10_ahead 128 = .ok (.invokevirtual 211, 3) := by decide +kernel
theorem dX10_ahead_131 : decode cX10_ahead 131 = .ok (.invokestatic 223, 3) := by decide +kernel
theorem dX10_ahead_134 : decode cX10_ahead 134 = .ok (.ifCond .eq 44, 3) := by decide +kernel
theorem dX10_ahead_137 : decode cX10_ahead 137 = .ok (.aload_n 0, 1) := by decide +kernel
theorem dX10_ahead_138 : decode cX10_ahead 138 = .ok (.ldc 229, 2) := by decide +kernel
theorem dX10_ahead_140 : decode cX10_ahead 140 = .ok (.bipush 10, 2) := by decide +kernel
theorem dX10_ahead_142 : decode cX10_ahead 142 = .ok (.aload_n 0, 1) := by decide +kernel
theorem dX10_ahead_143 : decode cX10_ahead 143 = .ok (.getfield 226, 3) := by decide +kernel
theorem dX10_ahead_146 : decode cX10_ahead 146 = .ok (.imul, 1) := by decide +kernel
theorem dX10_ahead_147 : decode cX10_ahead 147 = .ok (.aload_n 0, 1) := by decide +kernel
theorem dX10_ahead_148 : decode cX10_ahead 148 = .ok (.aload_n 0, 1) := by decide +kernel
theorem dX10_ahead_149 : decode cX10_ahead 149 = .ok (.getfield 208, 3) := by decide +kernel
theorem dX10_ahead_152 : decode cX10_ahead 152 = .ok (.invokevirtual 211, 3) := by decide +kernel
theorem dX10_ahead_155 : decode cX10_ahead 155 = .ok (.iadd, 1) := by decide +kernel
theorem dX10_ahead_156 : decode cX10_ahead 156 = .ok (.bipush 48, 2) := by decide +kernel
theorem dX10_ahead_158 : decode cX10_ahead 158 = .ok (.isub, 1) := by decide +kernel
theorem dX10_ahead_159 : decode cX10_ahead 159 = .ok (.invokestatic 230, 3) := by decide +kernel
theorem dX10_ahead_162 : decode cX10_ahead 162 = .ok (.putfield 226, 3) := by decide +kernel
theorem dX10_ahead_165 : decode cX10_ahead 165 = .ok (.aload_n 0, 1) := by decide +kernel
theorem dX10_ahead_166 : decode cX10_ahead 166 = .ok (.dup, 1) := by decide +kernel
theorem dX10_ahead_167 : decode cX10_ahead 167 = .ok (.getfield 208, 3) := by decide +kernel
theorem dX10_ahead_170 : decode cX10_ahead 170 = .ok (.iconst 1, 1) := by decide +kernel
theorem dX10_ahead_171 : decode cX10_ahead 171 = .ok (.iadd, 1) := by decide +kernel
theorem dX10_ahead_172 : decode cX10_ahead 172 = .ok (.putfield 208, 3) := by decide +kernel
theorem dX10_ahead_175 : decode cX10_ahead 175 = .ok (.goto (-52), 3) := by decide +kernel
theorem dX10_ahead_178 : decode cX10_ahead 178 = .ok (.aload_n 0, 1) := by decide +kernel
theorem dX10_ahead_179 : decode cX10_ahead 179 = .ok (.aload_n 0, 1) := by decide +kernel
theorem dX10_ahead_180 : decode cX10_ahead 180 = .ok (.getfield 208, 3) := by decide +kernel
theorem dX10_ahead_183 : decode cX10_ahead 183 = .ok (.aload_n 0, 1) := by decide +kernel
theorem dX10_ahead_184 : decode cX10_ahead 184 = .ok (.getfield 214, 3) := by decide +kernel
theorem dX10_ahead_187 : decode cX10_ahead 187 = .ok (.isub, 1) := by decide +kernel
theorem dX10_ahead_188 : decode cX10_ahead 188 = .ok (.iconst 4, 1) := by decide +kernel
theorem dX10_ahead_189 : decode cX10_ahead 189 = .ok (.if_icmp .le 7, 3) := by decide +kernel
theorem dX10_ahead_192 : decode cX10_ahead 192 = .ok (.iconst 1, 1) := by decide +kernel
theorem dX10_ahead_193 : decode cX10_ahead 193 = .ok (.goto 4, 3) := by decide +kernel
theorem dX10_ahead_196 : decode cX10_ahead 196 = .ok (.iconst 3, 1) := by decide +kernel
theorem dX10_ahead_197 : decode cX10_ahead 197 = .ok (.putfield 217, 3) := by decide +kernel
theorem dX10_ahead_200 : decode cX10_ahead 200 = .ok (.goto 28, 3) := by decide +kernel
theorem dX10_ahead_203 : decode cX10_ahead 203 = .ok (.aload_n 0, 1) := by decide +kernel
theorem dX10_ahead_204 : decode cX10_ahead 204 = .ok (.dup, 1) := by decide +kernel
theorem dX10_ahead_205 : decode cX10_ahead 205 = .ok (.getfield 208, 3) := by decide +kernel
theorem dX10_ahead_208 : decode cX10_ahead 208 = .ok (.iconst 1, 1) := by decide +kernel
theorem dX10_ahead_209 : decode cX10_ahead 209 = .ok (.iadd, 1) := by decide +kernel
theorem dX10_ahead_210 : decode cX10_ahead 210 = .ok (.putfield 208, 3) := by decide +kernel
theorem dX10_ahead_213 : decode cX10_ahead 213 = .ok (.aload_n 0, 1) := by decide +kernel
theorem dX10_ahead_214 : decode cX10_ahead 214 = .ok (.iload_n 1, 1) := by decide +kernel
theorem dX10_ahead_215 : decode cX10_ahead 215 = .ok (.bipush 59, 2) := by decide +kernel
theorem dX10_ahead_217 : decode cX10_ahead 217 = .ok (.if_icmp .ne 7, 3) := by decide +kernel
theorem dX10_ahead_220 : decode cX10_ahead 220 = .ok (.iconst 4, 1) := by decide +kernel
theorem dX10_ahead_221 : decode cX10_ahead 221 = .ok (.goto 4, 3) := by decide +kernel
theorem dX10_ahead_224 : decode cX10_ahead 224 = .ok (.iconst 1, 1) := by decide +kernel
theorem dX10_ahead_225 : decode cX10_ahead 225 = .ok (.putfield 217, 3) := by decide +kernel
theorem dX10_ahead_228 : decode cX10_ahead 228 = .ok (.return_, 1) := by decide +kernel
theorem dX10_key_0 : decode cX10_key 0 = .ok (.aload_n 0, 1) := by decide +kernel
theorem dX10_key_1 : decode cX10_key 1 = .ok (.getfield 217, 3) := by decide +kernel
theorem dX10_key_4 : decode cX10_key 4 = .ok (.iconst 2, 1) := by decide +kernel
theorem dX10_key_5 : decode cX10_key 5 = .ok (.if_icmp .eq 5, 3) := by decide +kernel
theorem dX10_key_8 : decode cX10_key 8 = .ok (.iconst (-1), 1) := by decide +kernel
theorem dX10_key_9 : decode cX10_key 9 = .ok (.ireturn, 1) := by decide +kernel
theorem dX10_key_10 : decode cX10_key 10 = .ok (.iconst 0, 1) := by decide +kernel
theorem dX10_key_11 : decode cX10_key 11 = .ok (.istore_n 1, 1) := by decide +kernel
theorem dX10_key_12 : decode cX10_key 12 = .ok (.iconst 1, 1) := by decide +kernel
theorem dX10_key_13 : decode cX10_key 13 = .ok (.istore_n 2, 1) := by decide +kernel
theorem dX10_key_14 : decode cX10_key 14 = .ok (.iload_n 2, 1) := by decide +kernel
theorem dX10_key_15 : decode cX10_key 15 = .ok (.ldc 232, 2) := by decide +kernel
theorem dX10_key_17 : decode cX10_key 17 = .ok (.invokevirtual 234, 3) := by decide +kernel
theorem dX10_key_20 : decode cX10_key 20 = .ok (.if_icmp .ge 113, 3) := by decide +kernel
theorem dX10_key_23 : decode cX10_key 23 = .ok (.iload_n 2, 1) := by decide +kernel
theorem dX10_key_24 : decode cX10_key 24 = .ok (.istore_n 3, 1) := by decide +kernel
theorem dX10_key_25 : decode cX10_key 25 = .ok (.ldc 232, 2) := by decide +kernel
theorem dX10_key_27 : decode cX10_key 27 = .ok (.iload_n 3, 1) := by decide +kernel
theorem dX10_key_28 : decode cX10_key 28 = .ok (.invokevirtual 239, 3) := by decide +kernel
theorem dX10_key_31 : decode cX10_key 31 = .ok (.bipush 32, 2) := by decide +kernel
theorem dX10_key_33 : decode cX10_key 33 = .ok (.if_icmp .eq 9, 3) := by decide +kernel
theorem dX10_key_36 : decode cX10_key 36 = .ok (.iinc 3 1, 3) := by decide +kernel
theorem dX10_key_39 : decode cX10_key 39 = .ok (.goto (-14), 3) := by decide +kernel
theorem dX10_key_42 : decode cX10_key 42 = .ok (.iload_n 3, 1) := by decide +kernel
theorem dX10_key_43 : decode cX10_key 43 = .ok (.iload_n 2, 1) := by decide +kernel
theorem dX10_key_44 : decode cX10_key 44 = .ok (.isub, 1) := by decide +kernel
theorem dX10_key_45 : decode cX10_key 45 = .ok (.aload_n 0, 1) := by decide +kernel
theorem dX10_key_46 : decode cX10_key 46 = .ok (.getfield 208, 3) := by decide +kernel
theorem dX10_key_49 : decode cX10_key 49 = .ok (.aload_n 0, 1) := by decide +kernel
theorem dX10_key_50 : decode cX10_key 50 = .ok (.getfield 214, 3) := by decide +kernel
theorem dX10_key_53 : decode cX10_key 53 = .ok (.isub, 1) := by decide +kernel
theorem dX10_key_54 : decode cX10_key 54 = .ok (.if_icmp .ne 7, 3) := by decide +kernel
theorem dX10_key_57 : decode cX10_key 57 = .ok (.iconst 1, 1) := by decide +kernel
theorem dX10_key_58 : decode cX10_key 58 = .ok (.goto 4, 3) := by decide +kernel
theorem dX10_key_61 : decode cX10_key 61 = .ok (.iconst 0, 1) := by decide +kernel
theorem dX10_key_62 : decode cX10_key 62 = .ok (.istore 4, 2) := by decide +kernel
theorem dX10_key_64 : decode cX10_key 64 = .ok (.iconst 0, 1) := by decide +kernel
theorem dX10_key_65 : decode cX10_key 65 = .ok (.istore 5, 2) := by decide +kernel
theorem dX10_key_67 : decode cX10_key 67 = .ok (.iload 5, 2) := by decide +kernel
theorem dX10_key_69 : decode cX10_key 69 = .ok (.iload_n 3, 1) := by decide +kernel
theorem dX10_key_70 : decode cX10_key 70 = .ok (.iload_n 2, 1) := by decide +kernel
theorem dX10_key_71 : decode cX10_key 71 = .ok (.isub, 1) := by decide +kernel
theorem dX10_key_72 : decode cX10_key 72 = .ok (.if_icmp .ge 44, 3) := by decide +kernel
theorem dX10_key_75 : decode cX10_key 75 = .ok (.iload 4, 2) := by decide +kernel
theorem dX10_key_77 : decode cX10_key 77 = .ok (.ifCond .eq 39, 3) := by decide +kernel
theorem dX10_key_80 : decode cX10_key 80 = .ok (.ldc 232, 2) := by decide +kernel
theorem dX10_key_82 : decode cX10_key 82 = .ok (.iload_n 2, 1) := by decide +kernel
theorem dX10_key_83 : decode cX10_key 83 = .ok (.iload 5, 2) := by decide +kernel
theorem dX10_key_85 : decode cX10_key 85 = .ok (.iadd, 1) := by decide +kernel
theorem dX10_key_86 : decode cX10_key 86 = .ok (.invokevirtual 239, 3) := by decide +kernel
theorem dX10_key_89 : decode cX10_key 89 = .ok (.aload_n 0, 1) := by decide +kernel
theorem dX10_key_90 : decode cX10_key 90 = .ok (.aload_n 0, 1) := by decide +kernel
theorem dX10_key_91 : decode cX10_key 91 = .ok (.getfield 214, 3) := by decide +kernel
theorem dX10_key_94 : decode cX10_key 94 = .ok (.iload 5, 2) := by decide +kernel
theorem dX10_key_96 : decode cX10_key 96 = .ok (.iadd, 1) := by decide +kernel
theorem dX10_key_97 : decode cX10_key 97 = .ok (.invokevirtual 211, 3) := by decide +kernel
theorem dX10_key_100 : decode cX10_key 100 = .ok (.if_icmp .ne 7, 3) := by decide +kernel
theorem dX10_key_103 : decode cX10_key 103 = .ok (.iconst 1, 1) := by decide +kernel
theorem dX10_key_104 : decode cX10_key 104 = .ok (.goto 4, 3) := by decide +kernel
theorem dX10_key_107 : decode cX10_key 107 = .ok (.iconst 0, 1) := by decide +kernel
theorem dX10_key_108 : decode cX10_key 108 = .ok (.istore 4, 2) := by decide +kernel
theorem dX10_key_110 : decode cX10_key 110 = .ok (.iinc 5 1, 3) := by decide +kernel
theorem dX10_key_113 : decode cX10_key 113 = .ok (.goto (-46), 3) := by decide +kernel
theorem dX10_key_116 : decode cX10_key 116 = .ok (.iload 4, 2) := by decide +kernel
theorem dX10_key_118 : decode cX10_key 118 = .ok (.ifCond .eq 5, 3) := by decide +kernel
theorem dX10_key_121 : decode cX10_key 121 = .ok (.iload_n 1, 1) := by decide +kernel
theorem dX10_key_122 : decode cX10_key 122 = .ok (.ireturn, 1) := by decide +kernel
theorem dX10_key_123 : decode cX10_key 123 = .ok (.iinc 1 1, 3) := by decide +kernel
theorem dX10_key_126 : decode cX10_key 126 = .ok (.iload_n 3, 1) := by decide +kernel
theorem dX10_key_127 : decode cX10_key 127 = .ok (.iconst 1, 1) := by decide +kernel
theorem dX10_key_128 : decode cX10_key 128 = .ok (.iadd, 1) := by decide +kernel
theorem dX10_key_129 : decode cX10_key 129 = .ok (.istore_n 2, 1) := by decide +kernel
theorem dX10_key_130 : decode cX10_key 130 = .ok (.goto (-116), 3) := by decide +kernel
theorem dX10_key_133 : decode cX10_key 133 = .ok (.iconst (-1), 1) := by decide +kernel
theorem dX10_key_134 : decode cX10_key 134 = .ok (.ireturn, 1) := by decide +kernel
theorem dX10_fails_0 : decode cX10_fails 0 = .ok (.aload_n 0, 1) := by decide +kernel
theorem dX10_fails_1 : decode cX10_fails 1 = .ok (.getfield 243, 3) := by decide +kernel
theorem dX10_fails_4 : decode cX10_fails 4 = .ok (.ifCond .ne 28, 3) := by decide +kernel
theorem dX10_fails_7 : decode cX10_fails 7 = .ok (.aload_n 0, 1) := by decide +kernel
theorem dX10_fails_8 : decode cX10_fails 8 = .ok (.aload_n 0, 1) := by decide +kernel
theorem dX10_fails_9 : decode cX10_fails 9 = .ok (.getfield 217, 3) := by decide +kernel
theorem dX10_fails_12 : decode cX10_fails 12 = .ok (.iconst 1, 1) := by decide +kernel
theorem dX10_fails_13 : decode cX10_fails 13 = .ok (.if_icmp .ne 7, 3) := by decide +kernel
theorem dX10_fails_16 : decode cX10_fails 16 = .ok (.iconst 1, 1) := by decide +kernel
theorem dX10_fails_17 : decode cX10_fails 17 = .ok (.goto 4, 3) := by decide +kernel
theorem dX10_fails_20 : decode cX10_fails 20 = .ok (.iload_n 1, 1) := by decide +kernel
theorem dX10_fails_21 : decode cX10_fails 21 = .ok (.putfield 243, 3) := by decide +kernel
theorem dX10_fails_24 : decode cX10_fails 24 = .ok (.aload_n 0, 1) := by decide +kernel
theorem dX10_fails_25 : decode cX10_fails 25 = .ok (.aload_n 0, 1) := by decide +kernel
theorem dX10_fails_26 : decode cX10_fails 26 = .ok (.getfield 214, 3) := by decide +kernel
theorem dX10_fails_29 : decode cX10_fails 29 = .ok (.putfield 20, 3) := by decide +kernel
theorem dX10_fails_32 : decode cX10_fails 32 = .ok (.iconst 0, 1) := by decide +kernel
theorem dX10_fails_33 : decode cX10_fails 33 = .ok (.ireturn, 1) := by decide +kernel
theorem dX10_takes_0 : decode cX10_takes 0 = .ok (.aload_n 0, 1) := by decide +kernel
theorem dX10_takes_1 : decode cX10_takes 1 = .ok (.invokevirtual 246, 3) := by decide +kernel
theorem dX10_takes_4 : decode cX10_takes 4 = .ok (.iconst 1, 1) := by decide +kernel
theorem dX10_takes_5 : decode cX10_takes 5 = .ok (.ireturn, 1) := by decide +kernel
theorem dX10_takesNumber_0 : decode cX10_takesNumber 0 = .ok (.aload_n 0, 1) := by decide +kernel
theorem dX10_takesNumber_1 : decode cX10_takesNumber 1 = .ok (.getfield 217, 3) := by decide +kernel
theorem dX10_takesNumber_4 : decode cX10_takesNumber 4 = .ok (.iconst 3, 1) := by decide +kernel
theorem dX10_takesNumber_5 : decode cX10_takesNumber 5 = .ok (.if_icmp .eq 9, 3) := by decide +kernel
theorem dX10_takesNumber_8 : decode cX10_takesNumber 8 = .ok (.aload_n 0, 1) := by decide +kernel
theorem dX10_takesNumber_9 : decode cX10_takesNumber 9 = .ok (.iconst 2, 1) := by decide +kernel
theorem dX10_takesNumber_10 : decode cX10_takesNumber 10 = .ok (.invokevirtual 249, 3) := by decide +kernel
theorem dX10_takesNumber_13 : decode cX10_takesNumber 13 = .ok (.ireturn, 1) := by decide +kernel
theorem dX10_takesNumber_14 : decode cX10_takesNumber 14 = .ok (.aload_n 0, 1) := by decide +kernel
theorem dX10_takesNumber_15 : decode cX10_takesNumber 15 = .ok (.getfield 226, 3) := by decide +kernel
theorem dX10_takesNumber_18 : decode cX10_takesNumber 18 = .ok (.i2l, 1) := by decide +kernel
theorem dX10_takesNumber_19 : decode cX10_takesNumber 19 = .ok (.iload_n 2, 1) := by decide +kernel
theorem dX10_takesNumber_20 : decode cX10_takesNumber 20 = .ok (.i2l, 1) := by decide +kernel
theorem dX10_takesNumber_21 : decode cX10_takesNumber 21 = .ok (.iload_n 3, 1) := by decide +kernel
theorem dX10_takesNumber_22 : decode cX10_takesNumber 22 = .ok (.i2l, 1) := by decide +kernel
theorem dX10_takesNumber_23 : decode cX10_takesNumber 23 = .ok (.invokestatic 252, 3) := by decide +kernel
theorem dX10_takesNumber_26 : decode cX10_takesNumber 26 = .ok (.ifCond .ne 9, 3) := by decide +kernel
theorem dX10_takesNumber_29 : decode cX10_takesNumber 29 = .ok (.aload_n 0, 1) := by decide +kernel
theorem dX10_takesNumber_30 : decode cX10_takesNumber 30 = .ok (.iconst 4, 1) := by decide +kernel
theorem dX10_takesNumber_31 : decode cX10_takesNumber 31 = .ok (.invokevirtual 249, 3) := by decide +kernel
theorem dX10_takesNumber_34 : decode cX10_takesNumber 34 = .ok (.ireturn, 1) := by decide +kernel
theorem dX10_takesNumber_35 : decode cX10_takesNumber 35 = .ok (.aload_n 0, 1) := by decide +kernel
theorem dX10_takesNumber_36 : decode cX10_takesNumber 36 = .ok (.iload_n 1, 1) := by decide +kernel
theorem dX10_takesNumber_37 : decode cX10_takesNumber 37 = .ok (.aload_n 0, 1) := by decide +kernel
theorem dX10_takesNumber_38 : decode cX10_takesNumber 38 = .ok (.getfield 226, 3) := by decide +kernel
theorem dX10_takesNumber_41 : decode cX10_takesNumber 41 = .ok (.i2l, 1) := by decide +kernel
theorem dX10_takesNumber_42 : decode cX10_takesNumber 42 = .ok (.invokevirtual 40, 3) := by decide +kernel
theorem dX10_takesNumber_45 : decode cX10_takesNumber 45 = .ok (.aload_n 0, 1) := by decide +kernel
theorem dX10_takesNumber_46 : decode cX10_takesNumber 46 = .ok (.invokevirtual 256, 3) := by decide +kernel
theorem dX10_takesNumber_49 : decode cX10_takesNumber 49 = .ok (.ireturn, 1) := by decide +kernel
theorem dX10_aLink_0 : decode cX10_aLink 0 = .ok (.aload_n 0, 1) := by decide +kernel
theorem dX10_aLink_1 : decode cX10_aLink 1 = .ok (.iconst 0, 1) := by decide +kernel
theorem dX10_aLink_2 : decode cX10_aLink 2 = .ok (.invokevirtual 48, 3) := by decide +kernel
theorem dX10_aLink_5 : decode cX10_aLink 5 = .ok (.ldc2_w 260, 3) := by decide +kernel
theorem dX10_aLink_8 : decode cX10_aLink 8 = .ok (.lcmp, 1) := by decide +kernel
theorem dX10_aLink_9 : decode cX10_aLink 9 = .ok (.ifCond .ne 10, 3) := by decide +kernel
theorem dX10_aLink_12 : decode cX10_aLink 12 = .ok (.aload_n 0, 1) := by decide +kernel
theorem dX10_aLink_13 : decode cX10_aLink 13 = .ok (.bipush 6, 2) := by decide +kernel
theorem dX10_aLink_15 : decode cX10_aLink 15 = .ok (.invokevirtual 249, 3) := by decide +kernel
theorem dX10_aLink_18 : decode cX10_aLink 18 = .ok (.ireturn, 1) := by decide +kernel
theorem dX10_aLink_19 : decode cX10_aLink 19 = .ok (.aload_n 0, 1) := by decide +kernel
theorem dX10_aLink_20 : decode cX10_aLink 20 = .ok (.iconst 0, 1) := by decide +kernel
theorem dX10_aLink_21 : decode cX10_aLink 21 = .ok (.invokevirtual 58, 3) := by decide +kernel
theorem dX10_aLink_24 : decode cX10_aLink 24 = .ok (.istore_n 1, 1) := by decide +kernel
theorem dX10_aLink_25 : decode cX10_aLink 25 = .ok (.aload_n 0, 1) := by decide +kernel
theorem dX10_aLink_26 : decode cX10_aLink 26 = .ok (.invokevirtual 246, 3) := by decide +kernel
theorem dX10_aLink_29 : decode cX10_aLink 29 = .ok (.aload_n 0, 1) := by decide +kernel
theorem dX10_aLink_30 : decode cX10_aLink 30 = .ok (.iload_n 1, 1) := by decide +kernel
theorem dX10_aLink_31 : decode cX10_aLink 31 = .ok (.iconst 0, 1) := by decide +kernel
theorem dX10_aLink_32 : decode cX10_aLink 32 = .ok (.invokestatic 44, 3) := by decide +kernel
theorem dX10_aLink_35 : decode cX10_aLink 35 = .ok (.iconst 1, 1) := by decide +kernel
theorem dX10_aLink_36 : decode cX10_aLink 36 = .ok (.bipush 9, 2) := by decide +kernel
theorem dX10_aLink_38 : decode cX10_aLink 38 = .ok (.invokevirtual 262, 3) := by decide +kernel
theorem dX10_aLink_41 : decode cX10_aLink 41 = .ok (.ifCond .eq 33, 3) := by decide +kernel
theorem dX10_aLink_44 : decode cX10_aLink 44 = .ok (.aload_n 0, 1) := by decide +kernel
theorem dX10_aLink_45 : decode cX10_aLink 45 = .ok (.iload_n 1, 1) := by decide +kernel
theorem dX10_aLink_46 : decode cX10_aLink 46 = .ok (.iconst 1, 1) := by decide +kernel
theorem dX10_aLink_47 : decode cX10_aLink 47 = .ok (.invokestatic 44, 3) := by decide +kernel
theorem dX10_aLink_50 : decode cX10_aLink 50 = .ok (.iconst 1, 1) := by decide +kernel
theorem dX10_aLink_51 : decode cX10_aLink 51 = .ok (.bipush 9, 2) := by decide +kernel
theorem dX10_aLink_53 : decode cX10_aLink 53 = .ok (.invokevirtual 262, 3) := by decide +kernel
theorem dX10_aLink_56 : decode cX10_aLink 56 = .ok (.ifCond .eq 18, 3) := by decide +kernel
theorem dX10_aLink_59 : decode cX10_aLink 59 = .ok (.aload_n 0, 1) := by decide +kernel
theorem dX10_aLink_60 : decode cX10_aLink 60 = .ok (.iload_n 1, 1) := by decide +kernel
theorem dX10_aLink_61 : decode cX10_aLink 61 = .ok (.iconst 2, 1) := by decide +kernel
theorem dX10_aLink_62 : decode cX10_aLink 62 = .ok (.invokestatic 44, 3) := by decide +kernel
theorem dX10_aLink_65 : decode cX10_aLink 65 = .ok (.iconst 1, 1) := by decide +kernel
theorem dX10_aLink_66 : decode cX10_aLink 66 = .ok (.bipush 60, 2) := by decide +kernel
theorem dX10_aLink_68 : decode cX10_aLink 68 = .ok (.invokevirtual 262, 3) := by decide +kernel
theorem dX10_aLink_71 : decode cX10_aLink 71 = .ok (.ifCond .ne 5, 3) := by decide +kernel
theorem dX10_aLink_74 : decode cX10_aLink 74 = .ok (.iconst 0, 1) := by decide +kernel
theorem dX10_aLink_75 : decode cX10_aLink 75 = .ok (.ireturn, 1) := by decide +kernel
theorem dX10_aLink_76 : decode cX10_aLink 76 = .ok (.aload_n 0, 1) := by decide +kernel
theorem dX10_aLink_77 : decode cX10_aLink 77 = .ok (.iload_n 1, 1) := by decide +kernel
theorem dX10_aLink_78 : decode cX10_aLink 78 = .ok (.iconst 3, 1) := by decide +kernel
theorem dX10_aLink_79 : decode cX10_aLink 79 = .ok (.invokestatic 44, 3) := by decide +kernel
theorem dX10_aLink_82 : decode cX10_aLink 82 = .ok (.ldc2_w 166, 3) := by decide +kernel
theorem dX10_aLink_85 : decode cX10_aLink 85 = .ok (.invokevirtual 40, 3) := by decide +kernel
theorem dX10_aLink_88 : decode cX10_aLink 88 = .ok (.aload_n 0, 1) := by decide +kernel
theorem dX10_aLink_89 : decode cX10_aLink 89 = .ok (.iload_n 1, 1) := by decide +kernel
theorem dX10_aLink_90 : decode cX10_aLink 90 = .ok (.bipush 7, 2) := by decide +kernel
theorem dX10_aLink_92 : decode cX10_aLink 92 = .ok (.invokestatic 44, 3) := by decide +kernel
theorem dX10_aLink_95 : decode cX10_aLink 95 = .ok (.aload_n 0, 1) := by decide +kernel
theorem dX10_aLink_96 : decode cX10_aLink 96 = .ok (.iload_n 1, 1) := by decide +kernel
theorem dX10_aLink_97 : decode cX10_aLink 97 = .ok (.iconst 2, 1) := by decide +kernel
theorem dX10_aLink_98 : decode cX10_aLink 98 = .ok (.invokevirtual 69, 3) := by decide +kernel
theorem dX10_aLink_101 : decode cX10_aLink 101 = .ok (.invokevirtual 40, 3) := by decide +kernel
theorem dX10_aLink_104 : decode cX10_aLink 104 = .ok (.aload_n 0, 1) := by decide +kernel
theorem dX10_aLink_105 : decode cX10_aLink 105 = .ok (.iload_n 1, 1) := by decide +kernel
theorem dX10_aLink_106 : decode cX10_aLink 106 = .ok (.bipush 10, 2) := by decide +kernel
theorem dX10_aLink_108 : decode cX10_aLink 108 = .ok (.invokestatic 44, 3) := by decide +kernel
theorem dX10_aLink_111 : decode cX10_aLink 111 = .ok (.lconst 1, 1) := by decide +kernel
theorem dX10_aLink_112 : decode cX10_aLink 112 = .ok (.invokevirtual 40, 3) := by decide +kernel
theorem dX10_aLink_115 : decode cX10_aLink 115 = .ok (.aload_n 0, 1) := by decide +kernel
theorem dX10_aLink_116 : decode cX10_aLink 116 = .ok (.iload_n 1, 1) := by decide +kernel
theorem dX10_aLink_117 : decode cX10_aLink 117 = .ok (.bipush 11, 2) := by decide +kernel
theorem dX10_aLink_119 : decode cX10_aLink 119 = .ok (.invokestatic 44, 3) := by decide +kernel
theorem dX10_aLink_122 : decode cX10_aLink 122 = .ok (.lconst 1, 1) := by decide +kernel
theorem dX10_aLink_123 : decode cX10_aLink 123 = .ok (.invokevirtual 40, 3) := by decide +kernel
theorem dX10_aLink_126 : decode cX10_aLink 126 = .ok (.aload_n 0, 1) := by decide +kernel
theorem dX10_aLink_127 : decode cX10_aLink 127 = .ok (.invokevirtual 266, 3) := by decide +kernel
theorem dX10_aLink_130 : decode cX10_aLink 130 = .ok (.iconst 2, 1) := by decide +kernel
theorem dX10_aLink_131 : decode cX10_aLink 131 = .ok (.if_icmp .ne 24, 3) := by decide +kernel
theorem dX10_aLink_134 : decode cX10_aLink 134 = .ok (.aload_n 0, 1) := by decide +kernel
theorem dX10_aLink_135 : decode cX10_aLink 135 = .ok (.invokevirtual 246, 3) := by decide +kernel
theorem dX10_aLink_138 : decode cX10_aLink 138 = .ok (.aload_n 0, 1) := by decide +kernel
theorem dX10_aLink_139 : decode cX10_aLink 139 = .ok (.iload_n 1, 1) := by decide +kernel
theorem dX10_aLink_140 : decode cX10_aLink 140 = .ok (.iconst 3, 1) := by decide +kernel
theorem dX10_aLink_141 : decode cX10_aLink 141 = .ok (.invokestatic 44, 3) := by decide +kernel
theorem dX10_aLink_144 : decode cX10_aLink 144 = .ok (.iconst 2, 1) := by decide +kernel
theorem dX10_aLink_145 : decode cX10_aLink 145 = .ok (.bipush 30, 2) := by decide +kernel
theorem dX10_aLink_147 : decode cX10_aLink 147 = .ok (.invokevirtual 262, 3) := by decide +kernel
theorem dX10_aLink_150 : decode cX10_aLink 150 = .ok (.ifCond .ne 5, 3) := by decide +kernel
theorem dX10_aLink_153 : decode cX10_aLink 153 = .ok (.iconst 0, 1) := by decide +kernel
theorem dX10_aLink_154 : decode cX10_aLink 154 = .ok (.ireturn, 1) := by decide +kernel
theorem dX10_aLink_155 : decode cX10_aLink 155 = .ok (.aload_n 0, 1) := by decide +kernel
theorem dX10_aLink_156 : decode cX10_aLink 156 = .ok (.iconst 0, 1) := by decide +kernel
theorem dX10_aLink_157 : decode cX10_aLink 157 = .ok (.lconst 1, 1) := by decide +kernel
theorem dX10_aLink_158 : decode cX10_aLink 158 = .ok (.invokevirtual 76, 3) := by decide +kernel
theorem dX10_aLink_161 : decode cX10_aLink 161 = .ok (.iconst 1, 1) := by decide +kernel
theorem dX10_aLink_162 : decode cX10_aLink 162 = .ok (.ireturn, 1) := by decide +kernel
theorem dX10_isInPath_0 : decode cX10_isInPath 0 = .ok (.iconst 0, 1) := by decide +kernel
theorem dX10_isInPath_1 : decode cX10_isInPath 1 = .ok (.istore_n 3, 1) := by decide +kernel
theorem dX10_isInPath_2 : decode cX10_isInPath 2 = .ok (.iload_n 3, 1) := by decide +kernel
theorem dX10_isInPath_3 : decode cX10_isInPath 3 = .ok (.i2l, 1) := by decide +kernel
theorem dX10_isInPath_4 : decode cX10_isInPath 4 = .ok (.aload_n 0, 1) := by decide +kernel
theorem dX10_isInPath_5 : decode cX10_isInPath 5 = .ok (.iload_n 1, 1) := by decide +kernel
theorem dX10_isInPath_6 : decode cX10_isInPath 6 = .ok (.iconst 0, 1) := by decide +kernel
theorem dX10_isInPath_7 : decode cX10_isInPath 7 = .ok (.invokevirtual 62, 3) := by decide +kernel
theorem dX10_isInPath_10 : decode cX10_isInPath 10 = .ok (.lcmp, 1) := by decide +kernel
theorem dX10_isInPath_11 : decode cX10_isInPath 11 = .ok (.ifCond .ge 21, 3) := by decide +kernel
theorem dX10_isInPath_14 : decode cX10_isInPath 14 = .ok (.aload_n 0, 1) := by decide +kernel
theorem dX10_isInPath_15 : decode cX10_isInPath 15 = .ok (.iload_n 1, 1) := by decide +kernel
theorem dX10_isInPath_16 : decode cX10_isInPath 16 = .ok (.iload_n 3, 1) := by decide +kernel
theorem dX10_isInPath_17 : decode cX10_isInPath 17 = .ok (.invokevirtual 66, 3) := by decide +kernel
theorem dX10_isInPath_20 : decode cX10_isInPath 20 = .ok (.iload_n 2, 1) := by decide +kernel
theorem dX10_isInPath_21 : decode cX10_isInPath 21 = .ok (.if_icmp .ne 5, 3) := by decide +kernel
theorem dX10_isInPath_24 : decode cX10_isInPath 24 = .ok (.iconst 1, 1) := by decide +kernel
theorem dX10_isInPath_25 : decode cX10_isInPath 25 = .ok (.ireturn, 1) := by decide +kernel
theorem dX10_isInPath_26 : decode cX10_isInPath 26 = .ok (.iinc 3 1, 3) := by decide +kernel
theorem dX10_isInPath_29 : decode cX10_isInPath 29 = .ok (.goto (-27), 3) := by decide +kernel
theorem dX10_isInPath_32 : decode cX10_isInPath 32 = .ok (.iconst 0, 1) := by decide +kernel
theorem dX10_isInPath_33 : decode cX10_isInPath 33 = .ok (.ireturn, 1) := by decide +kernel
theorem dX10_aHop_0 : decode cX10_aHop 0 = .ok (.aload_n 0, 1) := by decide +kernel
theorem dX10_aHop_1 : decode cX10_aHop 1 = .ok (.getfield 226, 3) := by decide +kernel
theorem dX10_aHop_4 : decode cX10_aHop 4 = .ok (.i2l, 1) := by decide +kernel
