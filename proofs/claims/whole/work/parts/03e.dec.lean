theorem dX10_aHop_5 : decode cX10_aHop 5 = .ok (.aload_n 0, 1) := by decide +kernel
theorem dX10_aHop_6 : decode cX10_aHop 6 = .ok (.iconst 0, 1) := by decide +kernel
theorem dX10_aHop_7 : decode cX10_aHop 7 = .ok (.invokevirtual 48, 3) := by decide +kernel
theorem dX10_aHop_10 : decode cX10_aHop 10 = .ok (.lcmp, 1) := by decide +kernel
theorem dX10_aHop_11 : decode cX10_aHop 11 = .ok (.ifCond .lt 9, 3) := by decide +kernel
theorem dX10_aHop_14 : decode cX10_aHop 14 = .ok (.aload_n 0, 1) := by decide +kernel
theorem dX10_aHop_15 : decode cX10_aHop 15 = .ok (.iconst 3, 1) := by decide +kernel
theorem dX10_aHop_16 : decode cX10_aHop 16 = .ok (.invokevirtual 249, 3) := by decide +kernel
theorem dX10_aHop_19 : decode cX10_aHop 19 = .ok (.ireturn, 1) := by decide +kernel
theorem dX10_aHop_20 : decode cX10_aHop 20 = .ok (.aload_n 0, 1) := by decide +kernel
theorem dX10_aHop_21 : decode cX10_aHop 21 = .ok (.iload_n 1, 1) := by decide +kernel
theorem dX10_aHop_22 : decode cX10_aHop 22 = .ok (.aload_n 0, 1) := by decide +kernel
theorem dX10_aHop_23 : decode cX10_aHop 23 = .ok (.getfield 226, 3) := by decide +kernel
theorem dX10_aHop_26 : decode cX10_aHop 26 = .ok (.invokevirtual 269, 3) := by decide +kernel
theorem dX10_aHop_29 : decode cX10_aHop 29 = .ok (.ifCond .eq 9, 3) := by decide +kernel
theorem dX10_aHop_32 : decode cX10_aHop 32 = .ok (.aload_n 0, 1) := by decide +kernel
theorem dX10_aHop_33 : decode cX10_aHop 33 = .ok (.iconst 4, 1) := by decide +kernel
theorem dX10_aHop_34 : decode cX10_aHop 34 = .ok (.invokevirtual 249, 3) := by decide +kernel
theorem dX10_aHop_37 : decode cX10_aHop 37 = .ok (.ireturn, 1) := by decide +kernel
theorem dX10_aHop_38 : decode cX10_aHop 38 = .ok (.aload_n 0, 1) := by decide +kernel
theorem dX10_aHop_39 : decode cX10_aHop 39 = .ok (.iload_n 1, 1) := by decide +kernel
theorem dX10_aHop_40 : decode cX10_aHop 40 = .ok (.iconst 0, 1) := by decide +kernel
theorem dX10_aHop_41 : decode cX10_aHop 41 = .ok (.invokevirtual 62, 3) := by decide +kernel
theorem dX10_aHop_44 : decode cX10_aHop 44 = .ok (.ldc2_w 273, 3) := by decide +kernel
theorem dX10_aHop_47 : decode cX10_aHop 47 = .ok (.lcmp, 1) := by decide +kernel
theorem dX10_aHop_48 : decode cX10_aHop 48 = .ok (.ifCond .ne 10, 3) := by decide +kernel
theorem dX10_aHop_51 : decode cX10_aHop 51 = .ok (.aload_n 0, 1) := by decide +kernel
theorem dX10_aHop_52 : decode cX10_aHop 52 = .ok (.bipush 6, 2) := by decide +kernel
theorem dX10_aHop_54 : decode cX10_aHop 54 = .ok (.invokevirtual 249, 3) := by decide +kernel
theorem dX10_aHop_57 : decode cX10_aHop 57 = .ok (.ireturn, 1) := by decide +kernel
theorem dX10_aHop_58 : decode cX10_aHop 58 = .ok (.aload_n 0, 1) := by decide +kernel
theorem dX10_aHop_59 : decode cX10_aHop 59 = .ok (.iload_n 1, 1) := by decide +kernel
theorem dX10_aHop_60 : decode cX10_aHop 60 = .ok (.bipush 12, 2) := by decide +kernel
theorem dX10_aHop_62 : decode cX10_aHop 62 = .ok (.aload_n 0, 1) := by decide +kernel
theorem dX10_aHop_63 : decode cX10_aHop 63 = .ok (.iload_n 1, 1) := by decide +kernel
theorem dX10_aHop_64 : decode cX10_aHop 64 = .ok (.iconst 0, 1) := by decide +kernel
theorem dX10_aHop_65 : decode cX10_aHop 65 = .ok (.invokestatic 52, 3) := by decide +kernel
theorem dX10_aHop_68 : decode cX10_aHop 68 = .ok (.invokevirtual 58, 3) := by decide +kernel
theorem dX10_aHop_71 : decode cX10_aHop 71 = .ok (.iadd, 1) := by decide +kernel
theorem dX10_aHop_72 : decode cX10_aHop 72 = .ok (.invokestatic 52, 3) := by decide +kernel
theorem dX10_aHop_75 : decode cX10_aHop 75 = .ok (.aload_n 0, 1) := by decide +kernel
theorem dX10_aHop_76 : decode cX10_aHop 76 = .ok (.getfield 226, 3) := by decide +kernel
theorem dX10_aHop_79 : decode cX10_aHop 79 = .ok (.i2l, 1) := by decide +kernel
theorem dX10_aHop_80 : decode cX10_aHop 80 = .ok (.invokevirtual 40, 3) := by decide +kernel
theorem dX10_aHop_83 : decode cX10_aHop 83 = .ok (.aload_n 0, 1) := by decide +kernel
theorem dX10_aHop_84 : decode cX10_aHop 84 = .ok (.iload_n 1, 1) := by decide +kernel
theorem dX10_aHop_85 : decode cX10_aHop 85 = .ok (.iconst 0, 1) := by decide +kernel
theorem dX10_aHop_86 : decode cX10_aHop 86 = .ok (.invokestatic 52, 3) := by decide +kernel
theorem dX10_aHop_89 : decode cX10_aHop 89 = .ok (.lconst 1, 1) := by decide +kernel
theorem dX10_aHop_90 : decode cX10_aHop 90 = .ok (.invokevirtual 76, 3) := by decide +kernel
theorem dX10_aHop_93 : decode cX10_aHop 93 = .ok (.aload_n 0, 1) := by decide +kernel
theorem dX10_aHop_94 : decode cX10_aHop 94 = .ok (.invokevirtual 256, 3) := by decide +kernel
theorem dX10_aHop_97 : decode cX10_aHop 97 = .ok (.ireturn, 1) := by decide +kernel
theorem dX10_marks_0 : decode cX10_marks 0 = .ok (.iconst 0, 1) := by decide +kernel
theorem dX10_marks_1 : decode cX10_marks 1 = .ok (.istore_n 2, 1) := by decide +kernel
theorem dX10_marks_2 : decode cX10_marks 2 = .ok (.aload_n 0, 1) := by decide +kernel
theorem dX10_marks_3 : decode cX10_marks 3 = .ok (.invokevirtual 266, 3) := by decide +kernel
theorem dX10_marks_6 : decode cX10_marks 6 = .ok (.istore_n 3, 1) := by decide +kernel
theorem dX10_marks_7 : decode cX10_marks 7 = .ok (.iload_n 3, 1) := by decide +kernel
theorem dX10_marks_8 : decode cX10_marks 8 = .ok (.iconst 3, 1) := by decide +kernel
theorem dX10_marks_9 : decode cX10_marks 9 = .ok (.if_icmp .lt 116, 3) := by decide +kernel
theorem dX10_marks_12 : decode cX10_marks 12 = .ok (.iload_n 3, 1) := by decide +kernel
theorem dX10_marks_13 : decode cX10_marks 13 = .ok (.iconst 3, 1) := by decide +kernel
theorem dX10_marks_14 : decode cX10_marks 14 = .ok (.if_icmp .ne 7, 3) := by decide +kernel
theorem dX10_marks_17 : decode cX10_marks 17 = .ok (.iconst 1, 1) := by decide +kernel
theorem dX10_marks_18 : decode cX10_marks 18 = .ok (.goto 14, 3) := by decide +kernel
theorem dX10_marks_21 : decode cX10_marks 21 = .ok (.iload_n 3, 1) := by decide +kernel
theorem dX10_marks_22 : decode cX10_marks 22 = .ok (.bipush 7, 2) := by decide +kernel
theorem dX10_marks_24 : decode cX10_marks 24 = .ok (.if_icmp .ge 7, 3) := by decide +kernel
theorem dX10_marks_27 : decode cX10_marks 27 = .ok (.iconst 2, 1) := by decide +kernel
theorem dX10_marks_28 : decode cX10_marks 28 = .ok (.goto 4, 3) := by decide +kernel
theorem dX10_marks_31 : decode cX10_marks 31 = .ok (.iconst 4, 1) := by decide +kernel
theorem dX10_marks_32 : decode cX10_marks 32 = .ok (.istore 4, 2) := by decide +kernel
theorem dX10_marks_34 : decode cX10_marks 34 = .ok (.iload_n 2, 1) := by decide +kernel
theorem dX10_marks_35 : decode cX10_marks 35 = .ok (.iload 4, 2) := by decide +kernel
theorem dX10_marks_37 : decode cX10_marks 37 = .ok (.iand, 1) := by decide +kernel
theorem dX10_marks_38 : decode cX10_marks 38 = .ok (.ifCond .eq 9, 3) := by decide +kernel
theorem dX10_marks_41 : decode cX10_marks 41 = .ok (.aload_n 0, 1) := by decide +kernel
theorem dX10_marks_42 : decode cX10_marks 42 = .ok (.iconst 5, 1) := by decide +kernel
theorem dX10_marks_43 : decode cX10_marks 43 = .ok (.invokevirtual 249, 3) := by decide +kernel
theorem dX10_marks_46 : decode cX10_marks 46 = .ok (.ireturn, 1) := by decide +kernel
theorem dX10_marks_47 : decode cX10_marks 47 = .ok (.iload_n 2, 1) := by decide +kernel
theorem dX10_marks_48 : decode cX10_marks 48 = .ok (.iload 4, 2) := by decide +kernel
theorem dX10_marks_50 : decode cX10_marks 50 = .ok (.ior, 1) := by decide +kernel
theorem dX10_marks_51 : decode cX10_marks 51 = .ok (.istore_n 2, 1) := by decide +kernel
theorem dX10_marks_52 : decode cX10_marks 52 = .ok (.aload_n 0, 1) := by decide +kernel
theorem dX10_marks_53 : decode cX10_marks 53 = .ok (.invokevirtual 246, 3) := by decide +kernel
theorem dX10_marks_56 : decode cX10_marks 56 = .ok (.iload 4, 2) := by decide +kernel
theorem dX10_marks_58 : decode cX10_marks 58 = .ok (.iconst 1, 1) := by decide +kernel
theorem dX10_marks_59 : decode cX10_marks 59 = .ok (.if_icmp .ne 21, 3) := by decide +kernel
theorem dX10_marks_62 : decode cX10_marks 62 = .ok (.aload_n 0, 1) := by decide +kernel
theorem dX10_marks_63 : decode cX10_marks 63 = .ok (.iload_n 1, 1) := by decide +kernel
theorem dX10_marks_64 : decode cX10_marks 64 = .ok (.iconst 1, 1) := by decide +kernel
theorem dX10_marks_65 : decode cX10_marks 65 = .ok (.invokestatic 52, 3) := by decide +kernel
theorem dX10_marks_68 : decode cX10_marks 68 = .ok (.iconst 0, 1) := by decide +kernel
theorem dX10_marks_69 : decode cX10_marks 69 = .ok (.sipush 9999, 3) := by decide +kernel
theorem dX10_marks_72 : decode cX10_marks 72 = .ok (.invokevirtual 262, 3) := by decide +kernel
theorem dX10_marks_75 : decode cX10_marks 75 = .ok (.ifCond .ne 5, 3) := by decide +kernel
theorem dX10_marks_78 : decode cX10_marks 78 = .ok (.iconst 0, 1) := by decide +kernel
theorem dX10_marks_79 : decode cX10_marks 79 = .ok (.ireturn, 1) := by decide +kernel
theorem dX10_marks_80 : decode cX10_marks 80 = .ok (.iload 4, 2) := by decide +kernel
theorem dX10_marks_82 : decode cX10_marks 82 = .ok (.iconst 2, 1) := by decide +kernel
theorem dX10_marks_83 : decode cX10_marks 83 = .ok (.if_icmp .ne 18, 3) := by decide +kernel
theorem dX10_marks_86 : decode cX10_marks 86 = .ok (.aload_n 0, 1) := by decide +kernel
theorem dX10_marks_87 : decode cX10_marks 87 = .ok (.iload_n 1, 1) := by decide +kernel
theorem dX10_marks_88 : decode cX10_marks 88 = .ok (.iconst 2, 1) := by decide +kernel
theorem dX10_marks_89 : decode cX10_marks 89 = .ok (.invokestatic 52, 3) := by decide +kernel
theorem dX10_marks_92 : decode cX10_marks 92 = .ok (.iload_n 3, 1) := by decide +kernel
theorem dX10_marks_93 : decode cX10_marks 93 = .ok (.i2l, 1) := by decide +kernel
theorem dX10_marks_94 : decode cX10_marks 94 = .ok (.ldc2_w 134, 3) := by decide +kernel
theorem dX10_marks_97 : decode cX10_marks 97 = .ok (.lsub, 1) := by decide +kernel
theorem dX10_marks_98 : decode cX10_marks 98 = .ok (.invokevirtual 40, 3) := by decide +kernel
theorem dX10_marks_101 : decode cX10_marks 101 = .ok (.iload 4, 2) := by decide +kernel
theorem dX10_marks_103 : decode cX10_marks 103 = .ok (.iconst 4, 1) := by decide +kernel
theorem dX10_marks_104 : decode cX10_marks 104 = .ok (.if_icmp .ne 13, 3) := by decide +kernel
theorem dX10_marks_107 : decode cX10_marks 107 = .ok (.aload_n 0, 1) := by decide +kernel
theorem dX10_marks_108 : decode cX10_marks 108 = .ok (.iload_n 1, 1) := by decide +kernel
theorem dX10_marks_109 : decode cX10_marks 109 = .ok (.iconst 3, 1) := by decide +kernel
theorem dX10_marks_110 : decode cX10_marks 110 = .ok (.invokestatic 52, 3) := by decide +kernel
theorem dX10_marks_113 : decode cX10_marks 113 = .ok (.lconst 0, 1) := by decide +kernel
theorem dX10_marks_114 : decode cX10_marks 114 = .ok (.invokevirtual 40, 3) := by decide +kernel
theorem dX10_marks_117 : decode cX10_marks 117 = .ok (.aload_n 0, 1) := by decide +kernel
theorem dX10_marks_118 : decode cX10_marks 118 = .ok (.invokevirtual 266, 3) := by decide +kernel
theorem dX10_marks_121 : decode cX10_marks 121 = .ok (.istore_n 3, 1) := by decide +kernel
theorem dX10_marks_122 : decode cX10_marks 122 = .ok (.goto (-115), 3) := by decide +kernel
theorem dX10_marks_125 : decode cX10_marks 125 = .ok (.iconst 1, 1) := by decide +kernel
theorem dX10_marks_126 : decode cX10_marks 126 = .ok (.ireturn, 1) := by decide +kernel
theorem dX10_aFlow_0 : decode cX10_aFlow 0 = .ok (.aload_n 0, 1) := by decide +kernel
theorem dX10_aFlow_1 : decode cX10_aFlow 1 = .ok (.iconst 1, 1) := by decide +kernel
theorem dX10_aFlow_2 : decode cX10_aFlow 2 = .ok (.invokevirtual 48, 3) := by decide +kernel
theorem dX10_aFlow_5 : decode cX10_aFlow 5 = .ok (.ldc2_w 260, 3) := by decide +kernel
theorem dX10_aFlow_8 : decode cX10_aFlow 8 = .ok (.lcmp, 1) := by decide +kernel
theorem dX10_aFlow_9 : decode cX10_aFlow 9 = .ok (.ifCond .ne 10, 3) := by decide +kernel
theorem dX10_aFlow_12 : decode cX10_aFlow 12 = .ok (.aload_n 0, 1) := by decide +kernel
theorem dX10_aFlow_13 : decode cX10_aFlow 13 = .ok (.bipush 6, 2) := by decide +kernel
theorem dX10_aFlow_15 : decode cX10_aFlow 15 = .ok (.invokevirtual 249, 3) := by decide +kernel
theorem dX10_aFlow_18 : decode cX10_aFlow 18 = .ok (.ireturn, 1) := by decide +kernel
theorem dX10_aFlow_19 : decode cX10_aFlow 19 = .ok (.aload_n 0, 1) := by decide +kernel
theorem dX10_aFlow_20 : decode cX10_aFlow 20 = .ok (.iconst 1, 1) := by decide +kernel
theorem dX10_aFlow_21 : decode cX10_aFlow 21 = .ok (.invokevirtual 58, 3) := by decide +kernel
theorem dX10_aFlow_24 : decode cX10_aFlow 24 = .ok (.istore_n 1, 1) := by decide +kernel
theorem dX10_aFlow_25 : decode cX10_aFlow 25 = .ok (.aload_n 0, 1) := by decide +kernel
theorem dX10_aFlow_26 : decode cX10_aFlow 26 = .ok (.invokevirtual 246, 3) := by decide +kernel
theorem dX10_aFlow_29 : decode cX10_aFlow 29 = .ok (.aload_n 0, 1) := by decide +kernel
theorem dX10_aFlow_30 : decode cX10_aFlow 30 = .ok (.getfield 217, 3) := by decide +kernel
theorem dX10_aFlow_33 : decode cX10_aFlow 33 = .ok (.iconst 3, 1) := by decide +kernel
theorem dX10_aFlow_34 : decode cX10_aFlow 34 = .ok (.if_icmp .eq 9, 3) := by decide +kernel
theorem dX10_aFlow_37 : decode cX10_aFlow 37 = .ok (.aload_n 0, 1) := by decide +kernel
theorem dX10_aFlow_38 : decode cX10_aFlow 38 = .ok (.iconst 2, 1) := by decide +kernel
theorem dX10_aFlow_39 : decode cX10_aFlow 39 = .ok (.invokevirtual 249, 3) := by decide +kernel
theorem dX10_aFlow_42 : decode cX10_aFlow 42 = .ok (.ireturn, 1) := by decide +kernel
theorem dX10_aFlow_43 : decode cX10_aFlow 43 = .ok (.aload_n 0, 1) := by decide +kernel
theorem dX10_aFlow_44 : decode cX10_aFlow 44 = .ok (.getfield 217, 3) := by decide +kernel
theorem dX10_aFlow_47 : decode cX10_aFlow 47 = .ok (.iconst 3, 1) := by decide +kernel
theorem dX10_aFlow_48 : decode cX10_aFlow 48 = .ok (.if_icmp .ne 13, 3) := by decide +kernel
theorem dX10_aFlow_51 : decode cX10_aFlow 51 = .ok (.aload_n 0, 1) := by decide +kernel
theorem dX10_aFlow_52 : decode cX10_aFlow 52 = .ok (.iload_n 1, 1) := by decide +kernel
theorem dX10_aFlow_53 : decode cX10_aFlow 53 = .ok (.invokevirtual 275, 3) := by decide +kernel
theorem dX10_aFlow_56 : decode cX10_aFlow 56 = .ok (.ifCond .ne (-13), 3) := by decide +kernel
theorem dX10_aFlow_59 : decode cX10_aFlow 59 = .ok (.iconst 0, 1) := by decide +kernel
theorem dX10_aFlow_60 : decode cX10_aFlow 60 = .ok (.ireturn, 1) := by decide +kernel
theorem dX10_aFlow_61 : decode cX10_aFlow 61 = .ok (.aload_n 0, 1) := by decide +kernel
theorem dX10_aFlow_62 : decode cX10_aFlow 62 = .ok (.iload_n 1, 1) := by decide +kernel
theorem dX10_aFlow_63 : decode cX10_aFlow 63 = .ok (.iconst 1, 1) := by decide +kernel
theorem dX10_aFlow_64 : decode cX10_aFlow 64 = .ok (.invokestatic 52, 3) := by decide +kernel
theorem dX10_aFlow_67 : decode cX10_aFlow 67 = .ok (.ldc2_w 111, 3) := by decide +kernel
theorem dX10_aFlow_70 : decode cX10_aFlow 70 = .ok (.invokevirtual 40, 3) := by decide +kernel
theorem dX10_aFlow_73 : decode cX10_aFlow 73 = .ok (.aload_n 0, 1) := by decide +kernel
theorem dX10_aFlow_74 : decode cX10_aFlow 74 = .ok (.iload_n 1, 1) := by decide +kernel
theorem dX10_aFlow_75 : decode cX10_aFlow 75 = .ok (.iconst 3, 1) := by decide +kernel
theorem dX10_aFlow_76 : decode cX10_aFlow 76 = .ok (.invokestatic 52, 3) := by decide +kernel
theorem dX10_aFlow_79 : decode cX10_aFlow 79 = .ok (.lconst 1, 1) := by decide +kernel
theorem dX10_aFlow_80 : decode cX10_aFlow 80 = .ok (.invokevirtual 40, 3) := by decide +kernel
theorem dX10_aFlow_83 : decode cX10_aFlow 83 = .ok (.aload_n 0, 1) := by decide +kernel
theorem dX10_aFlow_84 : decode cX10_aFlow 84 = .ok (.iload_n 1, 1) := by decide +kernel
theorem dX10_aFlow_85 : decode cX10_aFlow 85 = .ok (.iconst 5, 1) := by decide +kernel
theorem dX10_aFlow_86 : decode cX10_aFlow 86 = .ok (.invokestatic 52, 3) := by decide +kernel
theorem dX10_aFlow_89 : decode cX10_aFlow 89 = .ok (.ldc2_w 278, 3) := by decide +kernel
theorem dX10_aFlow_92 : decode cX10_aFlow 92 = .ok (.invokevirtual 40, 3) := by decide +kernel
theorem dX10_aFlow_95 : decode cX10_aFlow 95 = .ok (.aload_n 0, 1) := by decide +kernel
theorem dX10_aFlow_96 : decode cX10_aFlow 96 = .ok (.iload_n 1, 1) := by decide +kernel
theorem dX10_aFlow_97 : decode cX10_aFlow 97 = .ok (.bipush 7, 2) := by decide +kernel
theorem dX10_aFlow_99 : decode cX10_aFlow 99 = .ok (.invokestatic 52, 3) := by decide +kernel
theorem dX10_aFlow_102 : decode cX10_aFlow 102 = .ok (.ldc2_w 116, 3) := by decide +kernel
theorem dX10_aFlow_105 : decode cX10_aFlow 105 = .ok (.aload_n 0, 1) := by decide +kernel
theorem dX10_aFlow_106 : decode cX10_aFlow 106 = .ok (.iload_n 1, 1) := by decide +kernel
theorem dX10_aFlow_107 : decode cX10_aFlow 107 = .ok (.invokevirtual 82, 3) := by decide +kernel
theorem dX10_aFlow_110 : decode cX10_aFlow 110 = .ok (.i2l, 1) := by decide +kernel
theorem dX10_aFlow_111 : decode cX10_aFlow 111 = .ok (.lmul, 1) := by decide +kernel
theorem dX10_aFlow_112 : decode cX10_aFlow 112 = .ok (.invokevirtual 40, 3) := by decide +kernel
theorem dX10_aFlow_115 : decode cX10_aFlow 115 = .ok (.aload_n 0, 1) := by decide +kernel
theorem dX10_aFlow_116 : decode cX10_aFlow 116 = .ok (.iload_n 1, 1) := by decide +kernel
theorem dX10_aFlow_117 : decode cX10_aFlow 117 = .ok (.invokevirtual 280, 3) := by decide +kernel
theorem dX10_aFlow_120 : decode cX10_aFlow 120 = .ok (.ifCond .ne 5, 3) := by decide +kernel
theorem dX10_aFlow_123 : decode cX10_aFlow 123 = .ok (.iconst 0, 1) := by decide +kernel
theorem dX10_aFlow_124 : decode cX10_aFlow 124 = .ok (.ireturn, 1) := by decide +kernel
theorem dX10_aFlow_125 : decode cX10_aFlow 125 = .ok (.aload_n 0, 1) := by decide +kernel
theorem dX10_aFlow_126 : decode cX10_aFlow 126 = .ok (.iconst 1, 1) := by decide +kernel
theorem dX10_aFlow_127 : decode cX10_aFlow 127 = .ok (.lconst 1, 1) := by decide +kernel
theorem dX10_aFlow_128 : decode cX10_aFlow 128 = .ok (.invokevirtual 76, 3) := by decide +kernel
theorem dX10_aFlow_131 : decode cX10_aFlow 131 = .ok (.iconst 1, 1) := by decide +kernel
theorem dX10_aFlow_132 : decode cX10_aFlow 132 = .ok (.ireturn, 1) := by decide +kernel
theorem dX10_aLine_0 : decode cX10_aLine 0 = .ok (.aload_n 0, 1) := by decide +kernel
theorem dX10_aLine_1 : decode cX10_aLine 1 = .ok (.invokevirtual 266, 3) := by decide +kernel
theorem dX10_aLine_4 : decode cX10_aLine 4 = .ok (.istore_n 1, 1) := by decide +kernel
theorem dX10_aLine_5 : decode cX10_aLine 5 = .ok (.iload_n 1, 1) := by decide +kernel
theorem dX10_aLine_6 : decode cX10_aLine 6 = .ok (.ifCond .ne 10, 3) := by decide +kernel
theorem dX10_aLine_9 : decode cX10_aLine 9 = .ok (.aload_n 0, 1) := by decide +kernel
theorem dX10_aLine_10 : decode cX10_aLine 10 = .ok (.invokevirtual 283, 3) := by decide +kernel
theorem dX10_aLine_13 : decode cX10_aLine 13 = .ok (.goto 20, 3) := by decide +kernel
theorem dX10_aLine_16 : decode cX10_aLine 16 = .ok (.iload_n 1, 1) := by decide +kernel
theorem dX10_aLine_17 : decode cX10_aLine 17 = .ok (.iconst 1, 1) := by decide +kernel
theorem dX10_aLine_18 : decode cX10_aLine 18 = .ok (.if_icmp .ne 10, 3) := by decide +kernel
theorem dX10_aLine_21 : decode cX10_aLine 21 = .ok (.aload_n 0, 1) := by decide +kernel
theorem dX10_aLine_22 : decode cX10_aLine 22 = .ok (.invokevirtual 286, 3) := by decide +kernel
theorem dX10_aLine_25 : decode cX10_aLine 25 = .ok (.goto 8, 3) := by decide +kernel
theorem dX10_aLine_28 : decode cX10_aLine 28 = .ok (.aload_n 0, 1) := by decide +kernel
theorem dX10_aLine_29 : decode cX10_aLine 29 = .ok (.iconst 2, 1) := by decide +kernel
theorem dX10_aLine_30 : decode cX10_aLine 30 = .ok (.invokevirtual 249, 3) := by decide +kernel
theorem dX10_aLine_33 : decode cX10_aLine 33 = .ok (.istore_n 2, 1) := by decide +kernel
theorem dX10_aLine_34 : decode cX10_aLine 34 = .ok (.iload_n 2, 1) := by decide +kernel
theorem dX10_aLine_35 : decode cX10_aLine 35 = .ok (.ifCond .eq 33, 3) := by decide +kernel
theorem dX10_aLine_38 : decode cX10_aLine 38 = .ok (.aload_n 0, 1) := by decide +kernel
theorem dX10_aLine_39 : decode cX10_aLine 39 = .ok (.getfield 217, 3) := by decide +kernel
theorem dX10_aLine_42 : decode cX10_aLine 42 = .ok (.iconst 4, 1) := by decide +kernel
theorem dX10_aLine_43 : decode cX10_aLine 43 = .ok (.if_icmp .ne 13, 3) := by decide +kernel
theorem dX10_aLine_46 : decode cX10_aLine 46 = .ok (.aload_n 0, 1) := by decide +kernel
theorem dX10_aLine_47 : decode cX10_aLine 47 = .ok (.invokevirtual 256, 3) := by decide +kernel
theorem dX10_aLine_50 : decode cX10_aLine 50 = .ok (.ifCond .eq 18, 3) := by decide +kernel
theorem dX10_aLine_53 : decode cX10_aLine 53 = .ok (.goto 11, 3) := by decide +kernel
theorem dX10_aLine_56 : decode cX10_aLine 56 = .ok (.aload_n 0, 1) := by decide +kernel
theorem dX10_aLine_57 : decode cX10_aLine 57 = .ok (.iconst 2, 1) := by decide +kernel
theorem dX10_aLine_58 : decode cX10_aLine 58 = .ok (.invokevirtual 249, 3) := by decide +kernel
theorem dX10_aLine_61 : decode cX10_aLine 61 = .ok (.ifCond .eq 7, 3) := by decide +kernel
theorem dX10_aLine_64 : decode cX10_aLine 64 = .ok (.iconst 1, 1) := by decide +kernel
theorem dX10_aLine_65 : decode cX10_aLine 65 = .ok (.goto 4, 3) := by decide +kernel
theorem dX10_aLine_68 : decode cX10_aLine 68 = .ok (.iconst 0, 1) := by decide +kernel
theorem dX10_aLine_69 : decode cX10_aLine 69 = .ok (.ireturn, 1) := by decide +kernel
theorem dX10_load_0 : decode cX10_load 0 = .ok (.iload_n 1, 1) := by decide +kernel
theorem dX10_load_1 : decode cX10_load 1 = .ok (.i2l, 1) := by decide +kernel
theorem dX10_load_2 : decode cX10_load 2 = .ok (.lconst 0, 1) := by decide +kernel
theorem dX10_load_3 : decode cX10_load 3 = .ok (.aload_n 0, 1) := by decide +kernel
theorem dX10_load_4 : decode cX10_load 4 = .ok (.getfield 199, 3) := by decide +kernel
theorem dX10_load_7 : decode cX10_load 7 = .ok (.i2l, 1) := by decide +kernel
theorem dX10_load_8 : decode cX10_load 8 = .ok (.invokestatic 252, 3) := by decide +kernel
theorem dX10_load_11 : decode cX10_load 11 = .ok (.ifCond .ne 9, 3) := by decide +kernel
theorem dX10_load_14 : decode cX10_load 14 = .ok (.aload_n 0, 1) := by decide +kernel
theorem dX10_load_15 : decode cX10_load 15 = .ok (.iconst 1, 1) := by decide +kernel
theorem dX10_load_16 : decode cX10_load 16 = .ok (.invokevirtual 289, 3) := by decide +kernel
theorem dX10_load_19 : decode cX10_load 19 = .ok (.ireturn, 1) := by decide +kernel
theorem dX10_load_20 : decode cX10_load 20 = .ok (.aload_n 0, 1) := by decide +kernel
theorem dX10_load_21 : decode cX10_load 21 = .ok (.iload_n 1, 1) := by decide +kernel
theorem dX10_load_22 : decode cX10_load 22 = .ok (.putfield 205, 3) := by decide +kernel
theorem dX10_load_25 : decode cX10_load 25 = .ok (.iconst 0, 1) := by decide +kernel
theorem dX10_load_26 : decode cX10_load 26 = .ok (.istore_n 2, 1) := by decide +kernel
theorem dX10_load_27 : decode cX10_load 27 = .ok (.iload_n 2, 1) := by decide +kernel
theorem dX10_load_28 : decode cX10_load 28 = .ok (.iload_n 1, 1) := by decide +kernel
theorem dX10_load_29 : decode cX10_load 29 = .ok (.if_icmp .ge 21, 3) := by decide +kernel
theorem dX10_load_32 : decode cX10_load 32 = .ok (.aload_n 0, 1) := by decide +kernel
theorem dX10_load_33 : decode cX10_load 33 = .ok (.getfield 17, 3) := by decide +kernel
theorem dX10_load_36 : decode cX10_load 36 = .ok (.iload_n 2, 1) := by decide +kernel
theorem dX10_load_37 : decode cX10_load 37 = .ok (.aload_n 0, 1) := by decide +kernel
theorem dX10_load_38 : decode cX10_load 38 = .ok (.getfield 13, 3) := by decide +kernel
theorem dX10_load_41 : decode cX10_load 41 = .ok (.iload_n 2, 1) := by decide +kernel
theorem dX10_load_42 : decode cX10_load 42 = .ok (.baload, 1) := by decide +kernel
theorem dX10_load_43 : decode cX10_load 43 = .ok (.bastore, 1) := by decide +kernel
theorem dX10_load_44 : decode cX10_load 44 = .ok (.iinc 2 1, 3) := by decide +kernel
theorem dX10_load_47 : decode cX10_load 47 = .ok (.goto (-20), 3) := by decide +kernel
theorem dX10_load_50 : decode cX10_load 50 = .ok (.aload_n 0, 1) := by decide +kernel
theorem dX10_load_51 : decode cX10_load 51 = .ok (.iconst 0, 1) := by decide +kernel
theorem dX10_load_52 : decode cX10_load 52 = .ok (.putfield 199, 3) := by decide +kernel
theorem dX10_load_55 : decode cX10_load 55 = .ok (.aload_n 0, 1) := by decide +kernel
theorem dX10_load_56 : decode cX10_load 56 = .ok (.iconst 0, 1) := by decide +kernel
theorem dX10_load_57 : decode cX10_load 57 = .ok (.putfield 243, 3) := by decide +kernel
theorem dX10_load_60 : decode cX10_load 60 = .ok (.aload_n 0, 1) := by decide +kernel
theorem dX10_load_61 : decode cX10_load 61 = .ok (.iconst (-1), 1) := by decide +kernel
theorem dX10_load_62 : decode cX10_load 62 = .ok (.putfield 20, 3) := by decide +kernel
theorem dX10_load_65 : decode cX10_load 65 = .ok (.aload_n 0, 1) := by decide +kernel
theorem dX10_load_66 : decode cX10_load 66 = .ok (.iconst 0, 1) := by decide +kernel
theorem dX10_load_67 : decode cX10_load 67 = .ok (.putfield 208, 3) := by decide +kernel
theorem dX10_load_70 : decode cX10_load 70 = .ok (.aload_n 0, 1) := by decide +kernel
theorem dX10_load_71 : decode cX10_load 71 = .ok (.iconst 0, 1) := by decide +kernel
theorem dX10_load_72 : decode cX10_load 72 = .ok (.sipush 5804, 3) := by decide +kernel
theorem dX10_load_75 : decode cX10_load 75 = .ok (.invokevirtual 292, 3) := by decide +kernel
theorem dX10_load_78 : decode cX10_load 78 = .ok (.aload_n 0, 1) := by decide +kernel
theorem dX10_load_79 : decode cX10_load 79 = .ok (.invokevirtual 34, 3) := by decide +kernel
theorem dX10_load_82 : decode cX10_load 82 = .ok (.aload_n 0, 1) := by decide +kernel
theorem dX10_load_83 : decode cX10_load 83 = .ok (.invokevirtual 246, 3) := by decide +kernel
theorem dX10_load_86 : decode cX10_load 86 = .ok (.iconst 1, 1) := by decide +kernel
theorem dX10_load_87 : decode cX10_load 87 = .ok (.istore_n 2, 1) := by decide +kernel
theorem dX10_load_88 : decode cX10_load 88 = .ok (.iload_n 2, 1) := by decide +kernel
theorem dX10_load_89 : decode cX10_load 89 = .ok (.ifCond .eq 18, 3) := by decide +kernel
theorem dX10_load_92 : decode cX10_load 92 = .ok (.aload_n 0, 1) := by decide +kernel
theorem dX10_load_93 : decode cX10_load 93 = .ok (.getfield 217, 3) := by decide +kernel
theorem dX10_load_96 : decode cX10_load 96 = .ok (.ifCond .eq 11, 3) := by decide +kernel
theorem dX10_load_99 : decode cX10_load 99 = .ok (.aload_n 0, 1) := by decide +kernel
theorem dX10_load_100 : decode cX10_load 100 = .ok (.invokevirtual 295, 3) := by decide +kernel
theorem dX10_load_103 : decode cX10_load 103 = .ok (.istore_n 2, 1) := by decide +kernel
theorem dX10_load_104 : decode cX10_load 104 = .ok (.goto (-16), 3) := by decide +kernel
theorem dX10_load_107 : decode cX10_load 107 = .ok (.aload_n 0, 1) := by decide +kernel
theorem dX10_load_108 : decode cX10_load 108 = .ok (.aload_n 0, 1) := by decide +kernel
theorem dX10_load_109 : decode cX10_load 109 = .ok (.getfield 243, 3) := by decide +kernel
theorem dX10_load_112 : decode cX10_load 112 = .ok (.putfield 24, 3) := by decide +kernel
theorem dX10_load_115 : decode cX10_load 115 = .ok (.aload_n 0, 1) := by decide +kernel
theorem dX10_load_116 : decode cX10_load 116 = .ok (.getfield 243, 3) := by decide +kernel
theorem dX10_load_119 : decode cX10_load 119 = .ok (.ifCond .le 18, 3) := by decide +kernel
theorem dX10_load_122 : decode cX10_load 122 = .ok (.aload_n 0, 1) := by decide +kernel
theorem dX10_load_123 : decode cX10_load 123 = .ok (.sipush 5804, 3) := by decide +kernel
theorem dX10_load_126 : decode cX10_load 126 = .ok (.iconst 0, 1) := by decide +kernel
theorem dX10_load_127 : decode cX10_load 127 = .ok (.invokevirtual 292, 3) := by decide +kernel
theorem dX10_load_130 : decode cX10_load 130 = .ok (.aload_n 0, 1) := by decide +kernel
theorem dX10_load_131 : decode cX10_load 131 = .ok (.bipush 9, 2) := by decide +kernel
theorem dX10_load_133 : decode cX10_load 133 = .ok (.invokevirtual 289, 3) := by decide +kernel
theorem dX10_load_136 : decode cX10_load 136 = .ok (.ireturn, 1) := by decide +kernel
theorem dX10_load_137 : decode cX10_load 137 = .ok (.aload_n 0, 1) := by decide +kernel
theorem dX10_load_138 : decode cX10_load 138 = .ok (.aload_n 0, 1) := by decide +kernel
theorem dX10_load_139 : decode cX10_load 139 = .ok (.iconst 1, 1) := by decide +kernel
theorem dX10_load_140 : decode cX10_load 140 = .ok (.invokevirtual 48, 3) := by decide +kernel
theorem dX10_load_143 : decode cX10_load 143 = .ok (.invokevirtual 298, 3) := by decide +kernel
theorem dX10_load_146 : decode cX10_load 146 = .ok (.ireturn, 1) := by decide +kernel
theorem dX10_fault_0 : decode cX10_fault 0 = .ok (.iload_n 1, 1) := by decide +kernel
theorem dX10_fault_1 : decode cX10_fault 1 = .ok (.ifCond .ne 10, 3) := by decide +kernel
theorem dX10_fault_4 : decode cX10_fault 4 = .ok (.aload_n 0, 1) := by decide +kernel
theorem dX10_fault_5 : decode cX10_fault 5 = .ok (.getfield 24, 3) := by decide +kernel
theorem dX10_fault_8 : decode cX10_fault 8 = .ok (.goto 16, 3) := by decide +kernel
theorem dX10_fault_11 : decode cX10_fault 11 = .ok (.iload_n 1, 1) := by decide +kernel
theorem dX10_fault_12 : decode cX10_fault 12 = .ok (.iconst 1, 1) := by decide +kernel
theorem dX10_fault_13 : decode cX10_fault 13 = .ok (.if_icmp .ne 10, 3) := by decide +kernel
theorem dX10_fault_16 : decode cX10_fault 16 = .ok (.aload_n 0, 1) := by decide +kernel
theorem dX10_fault_17 : decode cX10_fault 17 = .ok (.getfield 20, 3) := by decide +kernel
theorem dX10_fault_20 : decode cX10_fault 20 = .ok (.goto 4, 3) := by decide +kernel
theorem dX10_fault_23 : decode cX10_fault 23 = .ok (.iconst (-1), 1) := by decide +kernel
theorem dX10_fault_24 : decode cX10_fault 24 = .ok (.ireturn, 1) := by decide +kernel
theorem dX10_linksSum_0 : decode cX10_linksSum 0 = .ok (.lconst 0, 1) := by decide +kernel
theorem dX10_linksSum_1 : decode cX10_linksSum 1 = .ok (.lstore_n 2, 1) := by decide +kernel
theorem dX10_linksSum_2 : decode cX10_linksSum 2 = .ok (.iconst 0, 1) := by decide +kernel
theorem dX10_linksSum_3 : decode cX10_linksSum 3 = .ok (.istore 4, 2) := by decide +kernel
theorem dX10_linksSum_5 : decode cX10_linksSum 5 = .ok (.iload 4, 2) := by decide +kernel
theorem dX10_linksSum_7 : decode cX10_linksSum 7 = .ok (.i2l, 1) := by decide +kernel
theorem dX10_linksSum_8 : decode cX10_linksSum 8 = .ok (.aload_n 0, 1) := by decide +kernel
theorem dX10_linksSum_9 : decode cX10_linksSum 9 = .ok (.iconst 0, 1) := by decide +kernel
theorem dX10_linksSum_10 : decode cX10_linksSum 10 = .ok (.invokevirtual 48, 3) := by decide +kernel
theorem dX10_linksSum_13 : decode cX10_linksSum 13 = .ok (.lcmp, 1) := by decide +kernel
theorem dX10_linksSum_14 : decode cX10_linksSum 14 = .ok (.ifCond .ge 19, 3) := by decide +kernel
theorem dX10_linksSum_17 : decode cX10_linksSum 17 = .ok (.lload_n 2, 1) := by decide +kernel
theorem dX10_linksSum_18 : decode cX10_linksSum 18 = .ok (.aload_n 0, 1) := by decide +kernel
theorem dX10_linksSum_19 : decode cX10_linksSum 19 = .ok (.iload 4, 2) := by decide +kernel
theorem dX10_linksSum_21 : decode cX10_linksSum 21 = .ok (.iload_n 1, 1) := by decide +kernel
theorem dX10_linksSum_22 : decode cX10_linksSum 22 = .ok (.invokevirtual 69, 3) := by decide +kernel
theorem dX10_linksSum_25 : decode cX10_linksSum 25 = .ok (.ladd, 1) := by decide +kernel
theorem dX10_linksSum_26 : decode cX10_linksSum 26 = .ok (.lstore_n 2, 1) := by decide +kernel
theorem dX10_linksSum_27 : decode cX10_linksSum 27 = .ok (.iinc 4 1, 3) := by decide +kernel
theorem dX10_linksSum_30 : decode cX10_linksSum 30 = .ok (.goto (-25), 3) := by decide +kernel
theorem dX10_linksSum_33 : decode cX10_linksSum 33 = .ok (.lload_n 2, 1) := by decide +kernel
theorem dX10_linksSum_34 : decode cX10_linksSum 34 = .ok (.lreturn, 1) := by decide +kernel
theorem dX10_flowsSum_0 : decode cX10_flowsSum 0 = .ok (.lconst 0, 1) := by decide +kernel
theorem dX10_flowsSum_1 : decode cX10_flowsSum 1 = .ok (.lstore_n 2, 1) := by decide +kernel
theorem dX10_flowsSum_2 : decode cX10_flowsSum 2 = .ok (.iconst 0, 1) := by decide +kernel
theorem dX10_flowsSum_3 : decode cX10_flowsSum 3 = .ok (.istore 4, 2) := by decide +kernel
theorem dX10_flowsSum_5 : decode cX10_flowsSum 5 = .ok (.iload 4, 2) := by decide +kernel
theorem dX10_flowsSum_7 : decode cX10_flowsSum 7 = .ok (.i2l, 1) := by decide +kernel
theorem dX10_flowsSum_8 : decode cX10_flowsSum 8 = .ok (.aload_n 0, 1) := by decide +kernel
theorem dX10_flowsSum_9 : decode cX10_flowsSum 9 = .ok (.iconst 1, 1) := by decide +kernel
theorem dX10_flowsSum_10 : decode cX10_flowsSum 10 = .ok (.invokevirtual 48, 3) := by decide +kernel
theorem dX10_flowsSum_13 : decode cX10_flowsSum 13 = .ok (.lcmp, 1) := by decide +kernel
theorem dX10_flowsSum_14 : decode cX10_flowsSum 14 = .ok (.ifCond .ge 19, 3) := by decide +kernel
theorem dX10_flowsSum_17 : decode cX10_flowsSum 17 = .ok (.lload_n 2, 1) := by decide +kernel
theorem dX10_flowsSum_18 : decode cX10_flowsSum 18 = .ok (.aload_n 0, 1) := by decide +kernel
theorem dX10_flowsSum_19 : decode cX10_flowsSum 19 = .ok (.iload 4, 2) := by decide +kernel
theorem dX10_flowsSum_21 : decode cX10_flowsSum 21 = .ok (.iload_n 1, 1) := by decide +kernel
theorem dX10_flowsSum_22 : decode cX10_flowsSum 22 = .ok (.invokevirtual 62, 3) := by decide +kernel
theorem dX10_flowsSum_25 : decode cX10_flowsSum 25 = .ok (.ladd, 1) := by decide +kernel
theorem dX10_flowsSum_26 : decode cX10_flowsSum 26 = .ok (.lstore_n 2, 1) := by decide +kernel
theorem dX10_flowsSum_27 : decode cX10_flowsSum 27 = .ok (.iinc 4 1, 3) := by decide +kernel
theorem dX10_flowsSum_30 : decode cX10_flowsSum 30 = .ok (.goto (-25), 3) := by decide +kernel
theorem dX10_flowsSum_33 : decode cX10_flowsSum 33 = .ok (.lload_n 2, 1) := by decide +kernel
theorem dX10_flowsSum_34 : decode cX10_flowsSum 34 = .ok (.lreturn, 1) := by decide +kernel
theorem dX10_even_0 : decode cX10_even 0 = .ok (.lconst 0, 1) := by decide +kernel
theorem dX10_even_1 : decode cX10_even 1 = .ok (.lstore_n 1, 1) := by decide +kernel
theorem dX10_even_2 : decode cX10_even 2 = .ok (.lconst 0, 1) := by decide +kernel
theorem dX10_even_3 : decode cX10_even 3 = .ok (.lstore_n 3, 1) := by decide +kernel
theorem dX10_even_4 : decode cX10_even 4 = .ok (.lconst 0, 1) := by decide +kernel
theorem dX10_even_5 : decode cX10_even 5 = .ok (.lstore 5, 2) := by decide +kernel
theorem dX10_even_7 : decode cX10_even 7 = .ok (.iconst 0, 1) := by decide +kernel
theorem dX10_even_8 : decode cX10_even 8 = .ok (.istore 7, 2) := by decide +kernel
theorem dX10_even_10 : decode cX10_even 10 = .ok (.iload 7, 2) := by decide +kernel
theorem dX10_even_12 : decode cX10_even 12 = .ok (.i2l, 1) := by decide +kernel
theorem dX10_even_13 : decode cX10_even 13 = .ok (.aload_n 0, 1) := by decide +kernel
theorem dX10_even_14 : decode cX10_even 14 = .ok (.iconst 1, 1) := by decide +kernel
theorem dX10_even_15 : decode cX10_even 15 = .ok (.invokevirtual 48, 3) := by decide +kernel
theorem dX10_even_18 : decode cX10_even 18 = .ok (.lcmp, 1) := by decide +kernel
theorem dX10_even_19 : decode cX10_even 19 = .ok (.ifCond .ge 55, 3) := by decide +kernel
theorem dX10_even_22 : decode cX10_even 22 = .ok (.aload_n 0, 1) := by decide +kernel
theorem dX10_even_23 : decode cX10_even 23 = .ok (.iload 7, 2) := by decide +kernel
theorem dX10_even_25 : decode cX10_even 25 = .ok (.invokevirtual 181, 3) := by decide +kernel
theorem dX10_even_28 : decode cX10_even 28 = .ok (.ifCond .ne 6, 3) := by decide +kernel
theorem dX10_even_31 : decode cX10_even 31 = .ok (.goto 37, 3) := by decide +kernel
theorem dX10_even_34 : decode cX10_even 34 = .ok (.lload_n 1, 1) := by decide +kernel
theorem dX10_even_35 : decode cX10_even 35 = .ok (.aload_n 0, 1) := by decide +kernel
theorem dX10_even_36 : decode cX10_even 36 = .ok (.iload 7, 2) := by decide +kernel
theorem dX10_even_38 : decode cX10_even 38 = .ok (.iconst 5, 1) := by decide +kernel
theorem dX10_even_39 : decode cX10_even 39 = .ok (.invokevirtual 62, 3) := by decide +kernel
theorem dX10_even_42 : decode cX10_even 42 = .ok (.ladd, 1) := by decide +kernel
theorem dX10_even_43 : decode cX10_even 43 = .ok (.lstore_n 1, 1) := by decide +kernel
theorem dX10_even_44 : decode cX10_even 44 = .ok (.lload_n 3, 1) := by decide +kernel
theorem dX10_even_45 : decode cX10_even 45 = .ok (.aload_n 0, 1) := by decide +kernel
theorem dX10_even_46 : decode cX10_even 46 = .ok (.iload 7, 2) := by decide +kernel
theorem dX10_even_48 : decode cX10_even 48 = .ok (.iconst 5, 1) := by decide +kernel
theorem dX10_even_49 : decode cX10_even 49 = .ok (.invokevirtual 62, 3) := by decide +kernel
theorem dX10_even_52 : decode cX10_even 52 = .ok (.aload_n 0, 1) := by decide +kernel
theorem dX10_even_53 : decode cX10_even 53 = .ok (.iload 7, 2) := by decide +kernel
theorem dX10_even_55 : decode cX10_even 55 = .ok (.iconst 5, 1) := by decide +kernel
theorem dX10_even_56 : decode cX10_even 56 = .ok (.invokevirtual 62, 3) := by decide +kernel
theorem dX10_even_59 : decode cX10_even 59 = .ok (.lmul, 1) := by decide +kernel
theorem dX10_even_60 : decode cX10_even 60 = .ok (.ladd, 1) := by decide +kernel
theorem dX10_even_61 : decode cX10_even 61 = .ok (.lstore_n 3, 1) := by decide +kernel
theorem dX10_even_62 : decode cX10_even 62 = .ok (.lload 5, 2) := by decide +kernel
theorem dX10_even_64 : decode cX10_even 64 = .ok (.lconst 1, 1) := by decide +kernel
theorem dX10_even_65 : decode cX10_even 65 = .ok (.ladd, 1) := by decide +kernel
theorem dX10_even_66 : decode cX10_even 66 = .ok (.lstore 5, 2) := by decide +kernel
theorem dX10_even_68 : decode cX10_even 68 = .ok (.iinc 7 1, 3) := by decide +kernel
theorem dX10_even_71 : decode cX10_even 71 = .ok (.goto (-61), 3) := by decide +kernel
theorem dX10_even_74 : decode cX10_even 74 = .ok (.lload 5, 2) := by decide +kernel
theorem dX10_even_76 : decode cX10_even 76 = .ok (.lconst 0, 1) := by decide +kernel
theorem dX10_even_77 : decode cX10_even 77 = .ok (.lcmp, 1) := by decide +kernel
theorem dX10_even_78 : decode cX10_even 78 = .ok (.ifCond .ne 9, 3) := by decide +kernel
theorem dX10_even_81 : decode cX10_even 81 = .ok (.ldc2_w 144, 3) := by decide +kernel
theorem dX10_even_84 : decode cX10_even 84 = .ok (.goto 15, 3) := by decide +kernel
theorem dX10_even_87 : decode cX10_even 87 = .ok (.lload_n 1, 1) := by decide +kernel
theorem dX10_even_88 : decode cX10_even 88 = .ok (.lload_n 1, 1) := by decide +kernel
theorem dX10_even_89 : decode cX10_even 89 = .ok (.lmul, 1) := by decide +kernel
theorem dX10_even_90 : decode cX10_even 90 = .ok (.ldc2_w 144, 3) := by decide +kernel
theorem dX10_even_93 : decode cX10_even 93 = .ok (.lmul, 1) := by decide +kernel
theorem dX10_even_94 : decode cX10_even 94 = .ok (.lload 5, 2) := by decide +kernel
theorem dX10_even_96 : decode cX10_even 96 = .ok (.lload_n 3, 1) := by decide +kernel
theorem dX10_even_97 : decode cX10_even 97 = .ok (.lmul, 1) := by decide +kernel
theorem dX10_even_98 : decode cX10_even 98 = .ok (.ldiv, 1) := by decide +kernel
theorem dX10_even_99 : decode cX10_even 99 = .ok (.lreturn, 1) := by decide +kernel
theorem dX10_gap_0 : decode cX10_gap 0 = .ok (.ldc2_w 124, 3) := by decide +kernel
theorem dX10_gap_3 : decode cX10_gap 3 = .ok (.lstore_n 1, 1) := by decide +kernel
theorem dX10_gap_4 : decode cX10_gap 4 = .ok (.lconst 0, 1) := by decide +kernel
theorem dX10_gap_5 : decode cX10_gap 5 = .ok (.lstore_n 3, 1) := by decide +kernel
theorem dX10_gap_6 : decode cX10_gap 6 = .ok (.iconst 0, 1) := by decide +kernel
theorem dX10_gap_7 : decode cX10_gap 7 = .ok (.istore 5, 2) := by decide +kernel
theorem dX10_gap_9 : decode cX10_gap 9 = .ok (.iload 5, 2) := by decide +kernel
theorem dX10_gap_11 : decode cX10_gap 11 = .ok (.i2l, 1) := by decide +kernel
theorem dX10_gap_12 : decode cX10_gap 12 = .ok (.aload_n 0, 1) := by decide +kernel
theorem dX10_gap_13 : decode cX10_gap 13 = .ok (.iconst 1, 1) := by decide +kernel
theorem dX10_gap_14 : decode cX10_gap 14 = .ok (.invokevirtual 48, 3) := by decide +kernel
theorem dX10_gap_17 : decode cX10_gap 17 = .ok (.lcmp, 1) := by decide +kernel
theorem dX10_gap_18 : decode cX10_gap 18 = .ok (.ifCond .ge 45, 3) := by decide +kernel
theorem dX10_gap_21 : decode cX10_gap 21 = .ok (.aload_n 0, 1) := by decide +kernel
theorem dX10_gap_22 : decode cX10_gap 22 = .ok (.iload 5, 2) := by decide +kernel
theorem dX10_gap_24 : decode cX10_gap 24 = .ok (.invokevirtual 181, 3) := by decide +kernel
theorem dX10_gap_27 : decode cX10_gap 27 = .ok (.ifCond .ne 6, 3) := by decide +kernel
theorem dX10_gap_30 : decode cX10_gap 30 = .ok (.goto 27, 3) := by decide +kernel
theorem dX10_gap_33 : decode cX10_gap 33 = .ok (.lload_n 1, 1) := by decide +kernel
theorem dX10_gap_34 : decode cX10_gap 34 = .ok (.aload_n 0, 1) := by decide +kernel
theorem dX10_gap_35 : decode cX10_gap 35 = .ok (.iload 5, 2) := by decide +kernel
theorem dX10_gap_37 : decode cX10_gap 37 = .ok (.iconst 5, 1) := by decide +kernel
theorem dX10_gap_38 : decode cX10_gap 38 = .ok (.invokevirtual 62, 3) := by decide +kernel
theorem dX10_gap_41 : decode cX10_gap 41 = .ok (.invokestatic 113, 3) := by decide +kernel
theorem dX10_gap_44 : decode cX10_gap 44 = .ok (.lstore_n 1, 1) := by decide +kernel
theorem dX10_gap_45 : decode cX10_gap 45 = .ok (.lload_n 3, 1) := by decide +kernel
theorem dX10_gap_46 : decode cX10_gap 46 = .ok (.aload_n 0, 1) := by decide +kernel
theorem dX10_gap_47 : decode cX10_gap 47 = .ok (.iload 5, 2) := by decide +kernel
theorem dX10_gap_49 : decode cX10_gap 49 = .ok (.iconst 5, 1) := by decide +kernel
theorem dX10_gap_50 : decode cX10_gap 50 = .ok (.invokevirtual 62, 3) := by decide +kernel
theorem dX10_gap_53 : decode cX10_gap 53 = .ok (.invokestatic 87, 3) := by decide +kernel
theorem dX10_gap_56 : decode cX10_gap 56 = .ok (.lstore_n 3, 1) := by decide +kernel
theorem dX10_gap_57 : decode cX10_gap 57 = .ok (.iinc 5 1, 3) := by decide +kernel
theorem dX10_gap_60 : decode cX10_gap 60 = .ok (.goto (-51), 3) := by decide +kernel
theorem dX10_gap_63 : decode cX10_gap 63 = .ok (.lconst 0, 1) := by decide +kernel
theorem dX10_gap_64 : decode cX10_gap 64 = .ok (.lload_n 3, 1) := by decide +kernel
theorem dX10_gap_65 : decode cX10_gap 65 = .ok (.lload_n 1, 1) := by decide +kernel
theorem dX10_gap_66 : decode cX10_gap 66 = .ok (.lsub, 1) := by decide +kernel
theorem dX10_gap_67 : decode cX10_gap 67 = .ok (.invokestatic 87, 3) := by decide +kernel
theorem dX10_gap_70 : decode cX10_gap 70 = .ok (.lreturn, 1) := by decide +kernel
theorem dX10_many_0 : decode cX10_many 0 = .ok (.iload_n 1, 1) := by decide +kernel
theorem dX10_many_1 : decode cX10_many 1 = .ok (.tableswitch 153 0 9 #[55, 65, 75, 85, 95, 105, 115, 125, 135, 144], 55) := by decide +kernel
theorem dX10_many_56 : decode cX10_many 56 = .ok (.aload_n 0, 1) := by decide +kernel
theorem dX10_many_57 : decode cX10_many 57 = .ok (.aload_n 0, 1) := by decide +kernel
theorem dX10_many_58 : decode cX10_many 58 = .ok (.iconst 0, 1) := by decide +kernel
theorem dX10_many_59 : decode cX10_many 59 = .ok (.invokevirtual 48, 3) := by decide +kernel
theorem dX10_many_62 : decode cX10_many 62 = .ok (.invokevirtual 298, 3) := by decide +kernel
theorem dX10_many_65 : decode cX10_many 65 = .ok (.ireturn, 1) := by decide +kernel
theorem dX10_many_66 : decode cX10_many 66 = .ok (.aload_n 0, 1) := by decide +kernel
theorem dX10_many_67 : decode cX10_many 67 = .ok (.aload_n 0, 1) := by decide +kernel
theorem dX10_many_68 : decode cX10_many 68 = .ok (.iconst 1, 1) := by decide +kernel
theorem dX10_many_69 : decode cX10_many 69 = .ok (.invokevirtual 48, 3) := by decide +kernel
theorem dX10_many_72 : decode cX10_many 72 = .ok (.invokevirtual 298, 3) := by decide +kernel
theorem dX10_many_75 : decode cX10_many 75 = .ok (.ireturn, 1) := by decide +kernel
theorem dX10_many_76 : decode cX10_many 76 = .ok (.aload_n 0, 1) := by decide +kernel
theorem dX10_many_77 : decode cX10_many 77 = .ok (.aload_n 0, 1) := by decide +kernel
theorem dX10_many_78 : decode cX10_many 78 = .ok (.iconst 2, 1) := by decide +kernel
theorem dX10_many_79 : decode cX10_many 79 = .ok (.invokevirtual 48, 3) := by decide +kernel
theorem dX10_many_82 : decode cX10_many 82 = .ok (.invokevirtual 298, 3) := by decide +kernel
theorem dX10_many_85 : decode cX10_many 85 = .ok (.ireturn, 1) := by decide +kernel
theorem dX10_many_86 : decode cX10_many 86 = .ok (.aload_n 0, 1) := by decide +kernel
theorem dX10_many_87 : decode cX10_many 87 = .ok (.aload_n 0, 1) := by decide +kernel
theorem dX10_many_88 : decode cX10_many 88 = .ok (.getfield 302, 3) := by decide +kernel
theorem dX10_many_91 : decode cX10_many 91 = .ok (.i2l, 1) := by decide +kernel
theorem dX10_many_92 : decode cX10_many 92 = .ok (.invokevirtual 298, 3) := by decide +kernel
theorem dX10_many_95 : decode cX10_many 95 = .ok (.ireturn, 1) := by decide +kernel
theorem dX10_many_96 : decode cX10_many 96 = .ok (.aload_n 0, 1) := by decide +kernel
theorem dX10_many_97 : decode cX10_many 97 = .ok (.aload_n 0, 1) := by decide +kernel
theorem dX10_many_98 : decode cX10_many 98 = .ok (.iconst 4, 1) := by decide +kernel
theorem dX10_many_99 : decode cX10_many 99 = .ok (.invokevirtual 304, 3) := by decide +kernel
theorem dX10_many_102 : decode cX10_many 102 = .ok (.invokevirtual 298, 3) := by decide +kernel
theorem dX10_many_105 : decode cX10_many 105 = .ok (.ireturn, 1) := by decide +kernel
theorem dX10_many_106 : decode cX10_many 106 = .ok (.aload_n 0, 1) := by decide +kernel
theorem dX10_many_107 : decode cX10_many 107 = .ok (.aload_n 0, 1) := by decide +kernel
theorem dX10_many_108 : decode cX10_many 108 = .ok (.iconst 5, 1) := by decide +kernel
theorem dX10_many_109 : decode cX10_many 109 = .ok (.invokevirtual 304, 3) := by decide +kernel
theorem dX10_many_112 : decode cX10_many 112 = .ok (.invokevirtual 298, 3) := by decide +kernel
theorem dX10_many_115 : decode cX10_many 115 = .ok (.ireturn, 1) := by decide +kernel
theorem dX10_many_116 : decode cX10_many 116 = .ok (.aload_n 0, 1) := by decide +kernel
theorem dX10_many_117 : decode cX10_many 117 = .ok (.aload_n 0, 1) := by decide +kernel
theorem dX10_many_118 : decode cX10_many 118 = .ok (.iconst 5, 1) := by decide +kernel
theorem dX10_many_119 : decode cX10_many 119 = .ok (.invokevirtual 48, 3) := by decide +kernel
theorem dX10_many_122 : decode cX10_many 122 = .ok (.invokevirtual 298, 3) := by decide +kernel
theorem dX10_many_125 : decode cX10_many 125 = .ok (.ireturn, 1) := by decide +kernel
theorem dX10_many_126 : decode cX10_many 126 = .ok (.aload_n 0, 1) := by decide +kernel
theorem dX10_many_127 : decode cX10_many 127 = .ok (.aload_n 0, 1) := by decide +kernel
theorem dX10_many_128 : decode cX10_many 128 = .ok (.iconst 3, 1) := by decide +kernel
theorem dX10_many_129 : decode cX10_many 129 = .ok (.invokevirtual 48, 3) := by decide +kernel
theorem dX10_many_132 : decode cX10_many 132 = .ok (.invokevirtual 298, 3) := by decide +kernel
theorem dX10_many_135 : decode cX10_many 135 = .ok (.ireturn, 1) := by decide +kernel
theorem dX10_many_136 : decode cX10_many 136 = .ok (.aload_n 0, 1) := by decide +kernel
theorem dX10_many_137 : decode cX10_many 137 = .ok (.aload_n 0, 1) := by decide +kernel
theorem dX10_many_138 : decode cX10_many 138 = .ok (.invokevirtual 307, 3) := by decide +kernel
theorem dX10_many_141 : decode cX10_many 141 = .ok (.invokevirtual 298, 3) := by decide +kernel
theorem dX10_many_144 : decode cX10_many 144 = .ok (.ireturn, 1) := by decide +kernel
theorem dX10_many_145 : decode cX10_many 145 = .ok (.aload_n 0, 1) := by decide +kernel
theorem dX10_many_146 : decode cX10_many 146 = .ok (.aload_n 0, 1) := by decide +kernel
theorem dX10_many_147 : decode cX10_many 147 = .ok (.invokevirtual 311, 3) := by decide +kernel
theorem dX10_many_150 : decode cX10_many 150 = .ok (.invokevirtual 298, 3) := by decide +kernel
theorem dX10_many_153 : decode cX10_many 153 = .ok (.ireturn, 1) := by decide +kernel
theorem dX10_many_154 : decode cX10_many 154 = .ok (.aload_n 0, 1) := by decide +kernel
theorem dX10_many_155 : decode cX10_many 155 = .ok (.iconst 1, 1) := by decide +kernel
theorem dX10_many_156 : decode cX10_many 156 = .ok (.invokevirtual 289, 3) := by decide +kernel
theorem dX10_many_159 : decode cX10_many 159 = .ok (.ireturn, 1) := by decide +kernel
theorem dX10_link_0 : decode cX10_link 0 = .ok (.iload_n 2, 1) := by decide +kernel
theorem dX10_link_1 : decode cX10_link 1 = .ok (.i2l, 1) := by decide +kernel
theorem dX10_link_2 : decode cX10_link 2 = .ok (.lconst 0, 1) := by decide +kernel
theorem dX10_link_3 : decode cX10_link 3 = .ok (.ldc2_w 314, 3) := by decide +kernel
theorem dX10_link_6 : decode cX10_link 6 = .ok (.invokestatic 252, 3) := by decide +kernel
theorem dX10_link_9 : decode cX10_link 9 = .ok (.ifCond .ne 9, 3) := by decide +kernel
theorem dX10_link_12 : decode cX10_link 12 = .ok (.aload_n 0, 1) := by decide +kernel
theorem dX10_link_13 : decode cX10_link 13 = .ok (.iconst 1, 1) := by decide +kernel
theorem dX10_link_14 : decode cX10_link 14 = .ok (.invokevirtual 289, 3) := by decide +kernel
theorem dX10_link_17 : decode cX10_link 17 = .ok (.ireturn, 1) := by decide +kernel
theorem dX10_link_18 : decode cX10_link 18 = .ok (.aload_n 0, 1) := by decide +kernel
theorem dX10_link_19 : decode cX10_link 19 = .ok (.iload_n 1, 1) := by decide +kernel
theorem dX10_link_20 : decode cX10_link 20 = .ok (.invokevirtual 316, 3) := by decide +kernel
theorem dX10_link_23 : decode cX10_link 23 = .ok (.ifCond .eq 16, 3) := by decide +kernel
theorem dX10_link_26 : decode cX10_link 26 = .ok (.aload_n 0, 1) := by decide +kernel
theorem dX10_link_27 : decode cX10_link 27 = .ok (.aload_n 0, 1) := by decide +kernel
theorem dX10_link_28 : decode cX10_link 28 = .ok (.iload_n 1, 1) := by decide +kernel
theorem dX10_link_29 : decode cX10_link 29 = .ok (.iload_n 2, 1) := by decide +kernel
theorem dX10_link_30 : decode cX10_link 30 = .ok (.invokevirtual 69, 3) := by decide +kernel
theorem dX10_link_33 : decode cX10_link 33 = .ok (.invokevirtual 298, 3) := by decide +kernel
theorem dX10_link_36 : decode cX10_link 36 = .ok (.goto 8, 3) := by decide +kernel
theorem dX10_link_39 : decode cX10_link 39 = .ok (.aload_n 0, 1) := by decide +kernel
theorem dX10_link_40 : decode cX10_link 40 = .ok (.iconst 2, 1) := by decide +kernel
theorem dX10_link_41 : decode cX10_link 41 = .ok (.invokevirtual 289, 3) := by decide +kernel
theorem dX10_link_44 : decode cX10_link 44 = .ok (.ireturn, 1) := by decide +kernel
theorem dX10_caughtAt_0 : decode cX10_caughtAt 0 = .ok (.iconst 0, 1) := by decide +kernel
theorem dX10_caughtAt_1 : decode cX10_caughtAt 1 = .ok (.istore_n 2, 1) := by decide +kernel
theorem dX10_caughtAt_2 : decode cX10_caughtAt 2 = .ok (.iconst 0, 1) := by decide +kernel
theorem dX10_caughtAt_3 : decode cX10_caughtAt 3 = .ok (.istore_n 3, 1) := by decide +kernel
theorem dX10_caughtAt_4 : decode cX10_caughtAt 4 = .ok (.iload_n 3, 1) := by decide +kernel
theorem dX10_caughtAt_5 : decode cX10_caughtAt 5 = .ok (.i2l, 1) := by decide +kernel
theorem dX10_caughtAt_6 : decode cX10_caughtAt 6 = .ok (.aload_n 0, 1) := by decide +kernel
theorem dX10_caughtAt_7 : decode cX10_caughtAt 7 = .ok (.iconst 0, 1) := by decide +kernel
theorem dX10_caughtAt_8 : decode cX10_caughtAt 8 = .ok (.invokevirtual 48, 3) := by decide +kernel
theorem dX10_caughtAt_11 : decode cX10_caughtAt 11 = .ok (.lcmp, 1) := by decide +kernel
theorem dX10_caughtAt_12 : decode cX10_caughtAt 12 = .ok (.ifCond .ge 33, 3) := by decide +kernel
theorem dX10_caughtAt_15 : decode cX10_caughtAt 15 = .ok (.iload_n 2, 1) := by decide +kernel
theorem dX10_caughtAt_16 : decode cX10_caughtAt 16 = .ok (.aload_n 0, 1) := by decide +kernel
theorem dX10_caughtAt_17 : decode cX10_caughtAt 17 = .ok (.iload_n 3, 1) := by decide +kernel
theorem dX10_caughtAt_18 : decode cX10_caughtAt 18 = .ok (.bipush 14, 2) := by decide +kernel
theorem dX10_caughtAt_20 : decode cX10_caughtAt 20 = .ok (.invokevirtual 69, 3) := by decide +kernel
theorem dX10_caughtAt_23 : decode cX10_caughtAt 23 = .ok (.iload_n 1, 1) := by decide +kernel
theorem dX10_caughtAt_24 : decode cX10_caughtAt 24 = .ok (.invokestatic 93, 3) := by decide +kernel
theorem dX10_caughtAt_27 : decode cX10_caughtAt 27 = .ok (.ifCond .eq 9, 3) := by decide +kernel
theorem dX10_caughtAt_30 : decode cX10_caughtAt 30 = .ok (.iconst 1, 1) := by decide +kernel
theorem dX10_caughtAt_31 : decode cX10_caughtAt 31 = .ok (.iload_n 3, 1) := by decide +kernel
theorem dX10_caughtAt_32 : decode cX10_caughtAt 32 = .ok (.ishl, 1) := by decide +kernel
theorem dX10_caughtAt_33 : decode cX10_caughtAt 33 = .ok (.goto 4, 3) := by decide +kernel
theorem dX10_caughtAt_36 : decode cX10_caughtAt 36 = .ok (.iconst 0, 1) := by decide +kernel
theorem dX10_caughtAt_37 : decode cX10_caughtAt 37 = .ok (.ior, 1) := by decide +kernel
theorem dX10_caughtAt_38 : decode cX10_caughtAt 38 = .ok (.istore_n 2, 1) := by decide +kernel
theorem dX10_caughtAt_39 : decode cX10_caughtAt 39 = .ok (.iinc 3 1, 3) := by decide +kernel
theorem dX10_caughtAt_42 : decode cX10_caughtAt 42 = .ok (.goto (-38), 3) := by decide +kernel
theorem dX10_caughtAt_45 : decode cX10_caughtAt 45 = .ok (.iload_n 2, 1) := by decide +kernel
theorem dX10_caughtAt_46 : decode cX10_caughtAt 46 = .ok (.ireturn, 1) := by decide +kernel
theorem dX10_flow_0 : decode cX10_flow 0 = .ok (.iload_n 2, 1) := by decide +kernel
theorem dX10_flow_1 : decode cX10_flow 1 = .ok (.i2l, 1) := by decide +kernel
theorem dX10_flow_2 : decode cX10_flow 2 = .ok (.lconst 0, 1) := by decide +kernel
theorem dX10_flow_3 : decode cX10_flow 3 = .ok (.ldc2_w 319, 3) := by decide +kernel
theorem dX10_flow_6 : decode cX10_flow 6 = .ok (.invokestatic 252, 3) := by decide +kernel
theorem dX10_flow_9 : decode cX10_flow 9 = .ok (.ifCond .ne 9, 3) := by decide +kernel
theorem dX10_flow_12 : decode cX10_flow 12 = .ok (.aload_n 0, 1) := by decide +kernel
theorem dX10_flow_13 : decode cX10_flow 13 = .ok (.iconst 1, 1) := by decide +kernel
theorem dX10_flow_14 : decode cX10_flow 14 = .ok (.invokevirtual 289, 3) := by decide +kernel
theorem dX10_flow_17 : decode cX10_flow 17 = .ok (.ireturn, 1) := by decide +kernel
theorem dX10_flow_18 : decode cX10_flow 18 = .ok (.aload_n 0, 1) := by decide +kernel
theorem dX10_flow_19 : decode cX10_flow 19 = .ok (.iload_n 1, 1) := by decide +kernel
theorem dX10_flow_20 : decode cX10_flow 20 = .ok (.invokevirtual 321, 3) := by decide +kernel
theorem dX10_flow_23 : decode cX10_flow 23 = .ok (.ifCond .ne 9, 3) := by decide +kernel
theorem dX10_flow_26 : decode cX10_flow 26 = .ok (.aload_n 0, 1) := by decide +kernel
theorem dX10_flow_27 : decode cX10_flow 27 = .ok (.iconst 2, 1) := by decide +kernel
theorem dX10_flow_28 : decode cX10_flow 28 = .ok (.invokevirtual 289, 3) := by decide +kernel
theorem dX10_flow_31 : decode cX10_flow 31 = .ok (.ireturn, 1) := by decide +kernel
theorem dX10_flow_32 : decode cX10_flow 32 = .ok (.aload_n 0, 1) := by decide +kernel
theorem dX10_flow_33 : decode cX10_flow 33 = .ok (.iload_n 2, 1) := by decide +kernel
theorem dX10_flow_34 : decode cX10_flow 34 = .ok (.iconst 4, 1) := by decide +kernel
theorem dX10_flow_35 : decode cX10_flow 35 = .ok (.if_icmp .ne 12, 3) := by decide +kernel
theorem dX10_flow_38 : decode cX10_flow 38 = .ok (.aload_n 0, 1) := by decide +kernel
theorem dX10_flow_39 : decode cX10_flow 39 = .ok (.iload_n 1, 1) := by decide +kernel
theorem dX10_flow_40 : decode cX10_flow 40 = .ok (.invokevirtual 82, 3) := by decide +kernel
theorem dX10_flow_43 : decode cX10_flow 43 = .ok (.i2l, 1) := by decide +kernel
theorem dX10_flow_44 : decode cX10_flow 44 = .ok (.goto 24, 3) := by decide +kernel
theorem dX10_flow_47 : decode cX10_flow 47 = .ok (.iload_n 2, 1) := by decide +kernel
theorem dX10_flow_48 : decode cX10_flow 48 = .ok (.bipush 11, 2) := by decide +kernel
theorem dX10_flow_50 : decode cX10_flow 50 = .ok (.if_icmp .ne 12, 3) := by decide +kernel
theorem dX10_flow_53 : decode cX10_flow 53 = .ok (.aload_n 0, 1) := by decide +kernel
theorem dX10_flow_54 : decode cX10_flow 54 = .ok (.iload_n 1, 1) := by decide +kernel
theorem dX10_flow_55 : decode cX10_flow 55 = .ok (.invokevirtual 324, 3) := by decide +kernel
theorem dX10_flow_58 : decode cX10_flow 58 = .ok (.i2l, 1) := by decide +kernel
theorem dX10_flow_59 : decode cX10_flow 59 = .ok (.goto 9, 3) := by decide +kernel
theorem dX10_flow_62 : decode cX10_flow 62 = .ok (.aload_n 0, 1) := by decide +kernel
theorem dX10_flow_63 : decode cX10_flow 63 = .ok (.iload_n 1, 1) := by decide +kernel
theorem dX10_flow_64 : decode cX10_flow 64 = .ok (.iload_n 2, 1) := by decide +kernel
theorem dX10_flow_65 : decode cX10_flow 65 = .ok (.invokevirtual 62, 3) := by decide +kernel
theorem dX10_flow_68 : decode cX10_flow 68 = .ok (.invokevirtual 298, 3) := by decide +kernel
theorem dX10_flow_71 : decode cX10_flow 71 = .ok (.ireturn, 1) := by decide +kernel
theorem dX10_path_0 : decode cX10_path 0 = .ok (.iload_n 2, 1) := by decide +kernel
theorem dX10_path_1 : decode cX10_path 1 = .ok (.ifCond .ge 9, 3) := by decide +kernel
theorem dX10_path_4 : decode cX10_path 4 = .ok (.aload_n 0, 1) := by decide +kernel
theorem dX10_path_5 : decode cX10_path 5 = .ok (.iconst 1, 1) := by decide +kernel
theorem dX10_path_6 : decode cX10_path 6 = .ok (.invokevirtual 289, 3) := by decide +kernel
theorem dX10_path_9 : decode cX10_path 9 = .ok (.ireturn, 1) := by decide +kernel
theorem dX10_path_10 : decode cX10_path 10 = .ok (.aload_n 0, 1) := by decide +kernel
theorem dX10_path_11 : decode cX10_path 11 = .ok (.iload_n 1, 1) := by decide +kernel
theorem dX10_path_12 : decode cX10_path 12 = .ok (.invokevirtual 321, 3) := by decide +kernel
theorem dX10_path_15 : decode cX10_path 15 = .ok (.ifCond .ne 9, 3) := by decide +kernel
theorem dX10_path_18 : decode cX10_path 18 = .ok (.aload_n 0, 1) := by decide +kernel
theorem dX10_path_19 : decode cX10_path 19 = .ok (.iconst 2, 1) := by decide +kernel
theorem dX10_path_20 : decode cX10_path 20 = .ok (.invokevirtual 289, 3) := by decide +kernel
theorem dX10_path_23 : decode cX10_path 23 = .ok (.ireturn, 1) := by decide +kernel
theorem dX10_path_24 : decode cX10_path 24 = .ok (.iload_n 2, 1) := by decide +kernel
theorem dX10_path_25 : decode cX10_path 25 = .ok (.i2l, 1) := by decide +kernel
theorem dX10_path_26 : decode cX10_path 26 = .ok (.aload_n 0, 1) := by decide +kernel
theorem dX10_path_27 : decode cX10_path 27 = .ok (.iload_n 1, 1) := by decide +kernel
theorem dX10_path_28 : decode cX10_path 28 = .ok (.iconst 0, 1) := by decide +kernel
theorem dX10_path_29 : decode cX10_path 29 = .ok (.invokevirtual 62, 3) := by decide +kernel
theorem dX10_path_32 : decode cX10_path 32 = .ok (.lcmp, 1) := by decide +kernel
theorem dX10_path_33 : decode cX10_path 33 = .ok (.ifCond .ge 17, 3) := by decide +kernel
theorem dX10_path_36 : decode cX10_path 36 = .ok (.aload_n 0, 1) := by decide +kernel
theorem dX10_path_37 : decode cX10_path 37 = .ok (.aload_n 0, 1) := by decide +kernel
theorem dX10_path_38 : decode cX10_path 38 = .ok (.iload_n 1, 1) := by decide +kernel
theorem dX10_path_39 : decode cX10_path 39 = .ok (.iload_n 2, 1) := by decide +kernel
theorem dX10_path_40 : decode cX10_path 40 = .ok (.invokevirtual 66, 3) := by decide +kernel
theorem dX10_path_43 : decode cX10_path 43 = .ok (.i2l, 1) := by decide +kernel
theorem dX10_path_44 : decode cX10_path 44 = .ok (.invokevirtual 298, 3) := by decide +kernel
theorem dX10_path_47 : decode cX10_path 47 = .ok (.goto 8, 3) := by decide +kernel
theorem dX10_path_50 : decode cX10_path 50 = .ok (.aload_n 0, 1) := by decide +kernel
theorem dX10_path_51 : decode cX10_path 51 = .ok (.iconst 5, 1) := by decide +kernel
theorem dX10_path_52 : decode cX10_path 52 = .ok (.invokevirtual 289, 3) := by decide +kernel
theorem dX10_path_55 : decode cX10_path 55 = .ok (.ireturn, 1) := by decide +kernel
theorem dX10_packet_0 : decode cX10_packet 0 = .ok (.iload_n 2, 1) := by decide +kernel
theorem dX10_packet_1 : decode cX10_packet 1 = .ok (.ifCond .lt 15, 3) := by decide +kernel
theorem dX10_packet_4 : decode cX10_packet 4 = .ok (.iload_n 3, 1) := by decide +kernel
theorem dX10_packet_5 : decode cX10_packet 5 = .ok (.i2l, 1) := by decide +kernel
theorem dX10_packet_6 : decode cX10_packet 6 = .ok (.lconst 0, 1) := by decide +kernel
theorem dX10_packet_7 : decode cX10_packet 7 = .ok (.ldc2_w 260, 3) := by decide +kernel
theorem dX10_packet_10 : decode cX10_packet 10 = .ok (.invokestatic 252, 3) := by decide +kernel
theorem dX10_packet_13 : decode cX10_packet 13 = .ok (.ifCond .ne 9, 3) := by decide +kernel
theorem dX10_packet_16 : decode cX10_packet 16 = .ok (.aload_n 0, 1) := by decide +kernel
theorem dX10_packet_17 : decode cX10_packet 17 = .ok (.iconst 1, 1) := by decide +kernel
theorem dX10_packet_18 : decode cX10_packet 18 = .ok (.invokevirtual 289, 3) := by decide +kernel
theorem dX10_packet_21 : decode cX10_packet 21 = .ok (.ireturn, 1) := by decide +kernel
theorem dX10_packet_22 : decode cX10_packet 22 = .ok (.aload_n 0, 1) := by decide +kernel
theorem dX10_packet_23 : decode cX10_packet 23 = .ok (.iload_n 1, 1) := by decide +kernel
theorem dX10_packet_24 : decode cX10_packet 24 = .ok (.invokevirtual 316, 3) := by decide +kernel
theorem dX10_packet_27 : decode cX10_packet 27 = .ok (.ifCond .ne 9, 3) := by decide +kernel
theorem dX10_packet_30 : decode cX10_packet 30 = .ok (.aload_n 0, 1) := by decide +kernel
theorem dX10_packet_31 : decode cX10_packet 31 = .ok (.iconst 2, 1) := by decide +kernel
theorem dX10_packet_32 : decode cX10_packet 32 = .ok (.invokevirtual 289, 3) := by decide +kernel
theorem dX10_packet_35 : decode cX10_packet 35 = .ok (.ireturn, 1) := by decide +kernel
theorem dX10_packet_36 : decode cX10_packet 36 = .ok (.iload_n 2, 1) := by decide +kernel
theorem dX10_packet_37 : decode cX10_packet 37 = .ok (.i2l, 1) := by decide +kernel
theorem dX10_packet_38 : decode cX10_packet 38 = .ok (.aload_n 0, 1) := by decide +kernel
theorem dX10_packet_39 : decode cX10_packet 39 = .ok (.iload_n 1, 1) := by decide +kernel
theorem dX10_packet_40 : decode cX10_packet 40 = .ok (.iconst 4, 1) := by decide +kernel
theorem dX10_packet_41 : decode cX10_packet 41 = .ok (.invokevirtual 69, 3) := by decide +kernel
theorem dX10_packet_44 : decode cX10_packet 44 = .ok (.lcmp, 1) := by decide +kernel
theorem dX10_packet_45 : decode cX10_packet 45 = .ok (.ifCond .lt 9, 3) := by decide +kernel
theorem dX10_packet_48 : decode cX10_packet 48 = .ok (.aload_n 0, 1) := by decide +kernel
theorem dX10_packet_49 : decode cX10_packet 49 = .ok (.iconst 5, 1) := by decide +kernel
theorem dX10_packet_50 : decode cX10_packet 50 = .ok (.invokevirtual 289, 3) := by decide +kernel
theorem dX10_packet_53 : decode cX10_packet 53 = .ok (.ireturn, 1) := by decide +kernel
theorem dX10_packet_54 : decode cX10_packet 54 = .ok (.aload_n 0, 1) := by decide +kernel
theorem dX10_packet_55 : decode cX10_packet 55 = .ok (.sipush 4208, 3) := by decide +kernel
theorem dX10_packet_58 : decode cX10_packet 58 = .ok (.bipush 60, 2) := by decide +kernel
theorem dX10_packet_60 : decode cX10_packet 60 = .ok (.iload_n 1, 1) := by decide +kernel
theorem dX10_packet_61 : decode cX10_packet 61 = .ok (.imul, 1) := by decide +kernel
theorem dX10_packet_62 : decode cX10_packet 62 = .ok (.iadd, 1) := by decide +kernel
theorem dX10_packet_63 : decode cX10_packet 63 = .ok (.iload_n 2, 1) := by decide +kernel
theorem dX10_packet_64 : decode cX10_packet 64 = .ok (.iadd, 1) := by decide +kernel
theorem dX10_packet_65 : decode cX10_packet 65 = .ok (.invokevirtual 58, 3) := by decide +kernel
theorem dX10_packet_68 : decode cX10_packet 68 = .ok (.istore 4, 2) := by decide +kernel
theorem dX10_packet_70 : decode cX10_packet 70 = .ok (.aload_n 0, 1) := by decide +kernel
theorem dX10_packet_71 : decode cX10_packet 71 = .ok (.iload_n 3, 1) := by decide +kernel
theorem dX10_packet_72 : decode cX10_packet 72 = .ok (.ifCond .ne 13, 3) := by decide +kernel
theorem dX10_packet_75 : decode cX10_packet 75 = .ok (.aload_n 0, 1) := by decide +kernel
theorem dX10_packet_76 : decode cX10_packet 76 = .ok (.iload 4, 2) := by decide +kernel
theorem dX10_packet_78 : decode cX10_packet 78 = .ok (.invokevirtual 79, 3) := by decide +kernel
theorem dX10_packet_81 : decode cX10_packet 81 = .ok (.i2l, 1) := by decide +kernel
theorem dX10_packet_82 : decode cX10_packet 82 = .ok (.goto 29, 3) := by decide +kernel
theorem dX10_packet_85 : decode cX10_packet 85 = .ok (.iload_n 3, 1) := by decide +kernel
theorem dX10_packet_86 : decode cX10_packet 86 = .ok (.bipush 6, 2) := by decide +kernel
theorem dX10_packet_88 : decode cX10_packet 88 = .ok (.if_icmp .ne 13, 3) := by decide +kernel
theorem dX10_packet_91 : decode cX10_packet 91 = .ok (.aload_n 0, 1) := by decide +kernel
theorem dX10_packet_92 : decode cX10_packet 92 = .ok (.iload_n 1, 1) := by decide +kernel
theorem dX10_packet_93 : decode cX10_packet 93 = .ok (.iload 4, 2) := by decide +kernel
theorem dX10_packet_95 : decode cX10_packet 95 = .ok (.invokevirtual 159, 3) := by decide +kernel
theorem dX10_packet_98 : decode cX10_packet 98 = .ok (.goto 13, 3) := by decide +kernel
theorem dX10_packet_101 : decode cX10_packet 101 = .ok (.aload_n 0, 1) := by decide +kernel
theorem dX10_packet_102 : decode cX10_packet 102 = .ok (.iload 4, 2) := by decide +kernel
theorem dX10_packet_104 : decode cX10_packet 104 = .ok (.iload_n 3, 1) := by decide +kernel
theorem dX10_packet_105 : decode cX10_packet 105 = .ok (.invokestatic 55, 3) := by decide +kernel
theorem dX10_packet_108 : decode cX10_packet 108 = .ok (.invokevirtual 48, 3) := by decide +kernel
theorem dX10_packet_111 : decode cX10_packet 111 = .ok (.invokevirtual 298, 3) := by decide +kernel
theorem dX10_packet_114 : decode cX10_packet 114 = .ok (.ireturn, 1) := by decide +kernel
theorem dX10_event_0 : decode cX10_event 0 = .ok (.iload_n 1, 1) := by decide +kernel
theorem dX10_event_1 : decode cX10_event 1 = .ok (.i2l, 1) := by decide +kernel
theorem dX10_event_2 : decode cX10_event 2 = .ok (.lconst 0, 1) := by decide +kernel
theorem dX10_event_3 : decode cX10_event 3 = .ok (.ldc2_w 164, 3) := by decide +kernel
theorem dX10_event_6 : decode cX10_event 6 = .ok (.invokestatic 252, 3) := by decide +kernel
theorem dX10_event_9 : decode cX10_event 9 = .ok (.ifCond .eq 15, 3) := by decide +kernel
theorem dX10_event_12 : decode cX10_event 12 = .ok (.iload_n 2, 1) := by decide +kernel
theorem dX10_event_13 : decode cX10_event 13 = .ok (.i2l, 1) := by decide +kernel
theorem dX10_event_14 : decode cX10_event 14 = .ok (.lconst 0, 1) := by decide +kernel
theorem dX10_event_15 : decode cX10_event 15 = .ok (.ldc2_w 134, 3) := by decide +kernel
theorem dX10_event_18 : decode cX10_event 18 = .ok (.invokestatic 252, 3) := by decide +kernel
theorem dX10_event_21 : decode cX10_event 21 = .ok (.ifCond .ne 9, 3) := by decide +kernel
theorem dX10_event_24 : decode cX10_event 24 = .ok (.aload_n 0, 1) := by decide +kernel
theorem dX10_event_25 : decode cX10_event 25 = .ok (.iconst 1, 1) := by decide +kernel
theorem dX10_event_26 : decode cX10_event 26 = .ok (.invokevirtual 289, 3) := by decide +kernel
theorem dX10_event_29 : decode cX10_event 29 = .ok (.ireturn, 1) := by decide +kernel
theorem dX10_event_30 : decode cX10_event 30 = .ok (.iload_n 1, 1) := by decide +kernel
theorem dX10_event_31 : decode cX10_event 31 = .ok (.i2l, 1) := by decide +kernel
theorem dX10_event_32 : decode cX10_event 32 = .ok (.aload_n 0, 1) := by decide +kernel
theorem dX10_event_33 : decode cX10_event 33 = .ok (.iconst 3, 1) := by decide +kernel
theorem dX10_event_34 : decode cX10_event 34 = .ok (.invokevirtual 48, 3) := by decide +kernel
theorem dX10_event_37 : decode cX10_event 37 = .ok (.lcmp, 1) := by decide +kernel
theorem dX10_event_38 : decode cX10_event 38 = .ok (.ifCond .ge 31, 3) := by decide +kernel
theorem dX10_event_41 : decode cX10_event 41 = .ok (.aload_n 0, 1) := by decide +kernel
theorem dX10_event_42 : decode cX10_event 42 = .ok (.aload_n 0, 1) := by decide +kernel
theorem dX10_event_43 : decode cX10_event 43 = .ok (.sipush 5588, 3) := by decide +kernel
theorem dX10_event_46 : decode cX10_event 46 = .ok (.iconst 4, 1) := by decide +kernel
theorem dX10_event_47 : decode cX10_event 47 = .ok (.aload_n 0, 1) := by decide +kernel
theorem dX10_event_48 : decode cX10_event 48 = .ok (.iconst 3, 1) := by decide +kernel
theorem dX10_event_49 : decode cX10_event 49 = .ok (.invokevirtual 58, 3) := by decide +kernel
theorem dX10_event_52 : decode cX10_event 52 = .ok (.iconst 1, 1) := by decide +kernel
theorem dX10_event_53 : decode cX10_event 53 = .ok (.isub, 1) := by decide +kernel
theorem dX10_event_54 : decode cX10_event 54 = .ok (.iload_n 1, 1) := by decide +kernel
theorem dX10_event_55 : decode cX10_event 55 = .ok (.isub, 1) := by decide +kernel
theorem dX10_event_56 : decode cX10_event 56 = .ok (.imul, 1) := by decide +kernel
theorem dX10_event_57 : decode cX10_event 57 = .ok (.iadd, 1) := by decide +kernel
theorem dX10_event_58 : decode cX10_event 58 = .ok (.iload_n 2, 1) := by decide +kernel
theorem dX10_event_59 : decode cX10_event 59 = .ok (.iadd, 1) := by decide +kernel
theorem dX10_event_60 : decode cX10_event 60 = .ok (.invokevirtual 48, 3) := by decide +kernel
theorem dX10_event_63 : decode cX10_event 63 = .ok (.invokevirtual 298, 3) := by decide +kernel
theorem dX10_event_66 : decode cX10_event 66 = .ok (.goto 8, 3) := by decide +kernel
theorem dX10_event_69 : decode cX10_event 69 = .ok (.aload_n 0, 1) := by decide +kernel
theorem dX10_event_70 : decode cX10_event 70 = .ok (.iconst 5, 1) := by decide +kernel
theorem dX10_event_71 : decode cX10_event 71 = .ok (.invokevirtual 289, 3) := by decide +kernel
theorem dX10_event_74 : decode cX10_event 74 = .ok (.ireturn, 1) := by decide +kernel
theorem dX10_given_0 : decode cX10_given 0 = .ok (.iload_n 2, 1) := by decide +kernel
theorem dX10_given_1 : decode cX10_given 1 = .ok (.i2l, 1) := by decide +kernel
theorem dX10_given_2 : decode cX10_given 2 = .ok (.lconst 0, 1) := by decide +kernel
theorem dX10_given_3 : decode cX10_given 3 = .ok (.lconst 1, 1) := by decide +kernel
theorem dX10_given_4 : decode cX10_given 4 = .ok (.invokestatic 252, 3) := by decide +kernel
theorem dX10_given_7 : decode cX10_given 7 = .ok (.ifCond .ne 9, 3) := by decide +kernel
theorem dX10_given_10 : decode cX10_given 10 = .ok (.aload_n 0, 1) := by decide +kernel
theorem dX10_given_11 : decode cX10_given 11 = .ok (.iconst 1, 1) := by decide +kernel
theorem dX10_given_12 : decode cX10_given 12 = .ok (.invokevirtual 289, 3) := by decide +kernel
theorem dX10_given_15 : decode cX10_given 15 = .ok (.ireturn, 1) := by decide +kernel
theorem dX10_given_16 : decode cX10_given 16 = .ok (.aload_n 0, 1) := by decide +kernel
theorem dX10_given_17 : decode cX10_given 17 = .ok (.iload_n 1, 1) := by decide +kernel
theorem dX10_given_18 : decode cX10_given 18 = .ok (.invokevirtual 316, 3) := by decide +kernel
theorem dX10_given_21 : decode cX10_given 21 = .ok (.ifCond .ne 9, 3) := by decide +kernel
theorem dX10_given_24 : decode cX10_given 24 = .ok (.aload_n 0, 1) := by decide +kernel
theorem dX10_given_25 : decode cX10_given 25 = .ok (.iconst 2, 1) := by decide +kernel
theorem dX10_given_26 : decode cX10_given 26 = .ok (.invokevirtual 289, 3) := by decide +kernel
theorem dX10_given_29 : decode cX10_given 29 = .ok (.ireturn, 1) := by decide +kernel
theorem dX10_given_30 : decode cX10_given 30 = .ok (.aload_n 0, 1) := by decide +kernel
theorem dX10_given_31 : decode cX10_given 31 = .ok (.iload_n 2, 1) := by decide +kernel
theorem dX10_given_32 : decode cX10_given 32 = .ok (.ifCond .ne 18, 3) := by decide +kernel
theorem dX10_given_35 : decode cX10_given 35 = .ok (.aload_n 0, 1) := by decide +kernel
theorem dX10_given_36 : decode cX10_given 36 = .ok (.iload_n 1, 1) := by decide +kernel
theorem dX10_given_37 : decode cX10_given 37 = .ok (.aload_n 0, 1) := by decide +kernel
theorem dX10_given_38 : decode cX10_given 38 = .ok (.iload_n 1, 1) := by decide +kernel
theorem dX10_given_39 : decode cX10_given 39 = .ok (.bipush 12, 2) := by decide +kernel
theorem dX10_given_41 : decode cX10_given 41 = .ok (.invokevirtual 69, 3) := by decide +kernel
theorem dX10_given_44 : decode cX10_given 44 = .ok (.invokevirtual 149, 3) := by decide +kernel
theorem dX10_given_47 : decode cX10_given 47 = .ok (.goto 15, 3) := by decide +kernel
theorem dX10_given_50 : decode cX10_given 50 = .ok (.aload_n 0, 1) := by decide +kernel
theorem dX10_given_51 : decode cX10_given 51 = .ok (.iload_n 1, 1) := by decide +kernel
theorem dX10_given_52 : decode cX10_given 52 = .ok (.aload_n 0, 1) := by decide +kernel
theorem dX10_given_53 : decode cX10_given 53 = .ok (.iload_n 1, 1) := by decide +kernel
theorem dX10_given_54 : decode cX10_given 54 = .ok (.bipush 13, 2) := by decide +kernel
theorem dX10_given_56 : decode cX10_given 56 = .ok (.invokevirtual 69, 3) := by decide +kernel
theorem dX10_given_59 : decode cX10_given 59 = .ok (.invokevirtual 156, 3) := by decide +kernel
theorem dX10_given_62 : decode cX10_given 62 = .ok (.invokevirtual 298, 3) := by decide +kernel
theorem dX10_given_65 : decode cX10_given 65 = .ok (.ireturn, 1) := by decide +kernel
theorem dX10_among_0 : decode cX10_among 0 = .ok (.iconst 0, 1) := by decide +kernel
theorem dX10_among_1 : decode cX10_among 1 = .ok (.istore 6, 2) := by decide +kernel
theorem dX10_among_3 : decode cX10_among 3 = .ok (.iconst 0, 1) := by decide +kernel
theorem dX10_among_4 : decode cX10_among 4 = .ok (.istore 7, 2) := by decide +kernel
theorem dX10_among_6 : decode cX10_among 6 = .ok (.iload 7, 2) := by decide +kernel
theorem dX10_among_8 : decode cX10_among 8 = .ok (.i2l, 1) := by decide +kernel
theorem dX10_among_9 : decode cX10_among 9 = .ok (.lload_n 3, 1) := by decide +kernel
theorem dX10_among_10 : decode cX10_among 10 = .ok (.lcmp, 1) := by decide +kernel
theorem dX10_among_11 : decode cX10_among 11 = .ok (.ifCond .ge 60, 3) := by decide +kernel
theorem dX10_among_14 : decode cX10_among 14 = .ok (.aload_n 0, 1) := by decide +kernel
theorem dX10_among_15 : decode cX10_among 15 = .ok (.iload_n 2, 1) := by decide +kernel
theorem dX10_among_16 : decode cX10_among 16 = .ok (.iload 7, 2) := by decide +kernel
theorem dX10_among_18 : decode cX10_among 18 = .ok (.iadd, 1) := by decide +kernel
theorem dX10_among_19 : decode cX10_among 19 = .ok (.invokevirtual 58, 3) := by decide +kernel
theorem dX10_among_22 : decode cX10_among 22 = .ok (.istore 8, 2) := by decide +kernel
theorem dX10_among_24 : decode cX10_among 24 = .ok (.iload 6, 2) := by decide +kernel
theorem dX10_among_26 : decode cX10_among 26 = .ok (.aload_n 0, 1) := by decide +kernel
theorem dX10_among_27 : decode cX10_among 27 = .ok (.iload 8, 2) := by decide +kernel
theorem dX10_among_29 : decode cX10_among 29 = .ok (.invokevirtual 79, 3) := by decide +kernel
theorem dX10_among_32 : decode cX10_among 32 = .ok (.iload_n 1, 1) := by decide +kernel
theorem dX10_among_33 : decode cX10_among 33 = .ok (.if_icmp .ne 28, 3) := by decide +kernel
theorem dX10_among_36 : decode cX10_among 36 = .ok (.iload 5, 2) := by decide +kernel
theorem dX10_among_38 : decode cX10_among 38 = .ok (.ifCond .eq 19, 3) := by decide +kernel
theorem dX10_among_41 : decode cX10_among 41 = .ok (.aload_n 0, 1) := by decide +kernel
theorem dX10_among_42 : decode cX10_among 42 = .ok (.iload 8, 2) := by decide +kernel
theorem dX10_among_44 : decode cX10_among 44 = .ok (.bipush 7, 2) := by decide +kernel
theorem dX10_among_46 : decode cX10_among 46 = .ok (.invokestatic 55, 3) := by decide +kernel
theorem dX10_among_49 : decode cX10_among 49 = .ok (.invokevirtual 48, 3) := by decide +kernel
theorem dX10_among_52 : decode cX10_among 52 = .ok (.lconst 1, 1) := by decide +kernel
theorem dX10_among_53 : decode cX10_among 53 = .ok (.lcmp, 1) := by decide +kernel
theorem dX10_among_54 : decode cX10_among 54 = .ok (.ifCond .ne 7, 3) := by decide +kernel
theorem dX10_among_57 : decode cX10_among 57 = .ok (.iconst 1, 1) := by decide +kernel
theorem dX10_among_58 : decode cX10_among 58 = .ok (.goto 4, 3) := by decide +kernel
theorem dX10_among_61 : decode cX10_among 61 = .ok (.iconst 0, 1) := by decide +kernel
theorem dX10_among_62 : decode cX10_among 62 = .ok (.iadd, 1) := by decide +kernel
theorem dX10_among_63 : decode cX10_among 63 = .ok (.istore 6, 2) := by decide +kernel
theorem dX10_among_65 : decode cX10_among 65 = .ok (.iinc 7 1, 3) := by decide +kernel
theorem dX10_among_68 : decode cX10_among 68 = .ok (.goto (-62), 3) := by decide +kernel
theorem dX10_among_71 : decode cX10_among 71 = .ok (.iload 6, 2) := by decide +kernel
theorem dX10_among_73 : decode cX10_among 73 = .ok (.ireturn, 1) := by decide +kernel
theorem dX10_where_0 : decode cX10_where 0 = .ok (.iload_n 2, 1) := by decide +kernel
theorem dX10_where_1 : decode cX10_where 1 = .ok (.i2l, 1) := by decide +kernel
theorem dX10_where_2 : decode cX10_where 2 = .ok (.lconst 0, 1) := by decide +kernel
theorem dX10_where_3 : decode cX10_where 3 = .ok (.ldc2_w 134, 3) := by decide +kernel
theorem dX10_where_6 : decode cX10_where 6 = .ok (.invokestatic 252, 3) := by decide +kernel
theorem dX10_where_9 : decode cX10_where 9 = .ok (.ifCond .ne 9, 3) := by decide +kernel
theorem dX10_where_12 : decode cX10_where 12 = .ok (.aload_n 0, 1) := by decide +kernel
theorem dX10_where_13 : decode cX10_where 13 = .ok (.iconst 1, 1) := by decide +kernel
theorem dX10_where_14 : decode cX10_where 14 = .ok (.invokevirtual 289, 3) := by decide +kernel
theorem dX10_where_17 : decode cX10_where 17 = .ok (.ireturn, 1) := by decide +kernel
theorem dX10_where_18 : decode cX10_where 18 = .ok (.aload_n 0, 1) := by decide +kernel
theorem dX10_where_19 : decode cX10_where 19 = .ok (.iload_n 1, 1) := by decide +kernel
theorem dX10_where_20 : decode cX10_where 20 = .ok (.invokevirtual 321, 3) := by decide +kernel
theorem dX10_where_23 : decode cX10_where 23 = .ok (.ifCond .ne 9, 3) := by decide +kernel
theorem dX10_where_26 : decode cX10_where 26 = .ok (.aload_n 0, 1) := by decide +kernel
theorem dX10_where_27 : decode cX10_where 27 = .ok (.iconst 2, 1) := by decide +kernel
theorem dX10_where_28 : decode cX10_where 28 = .ok (.invokevirtual 289, 3) := by decide +kernel
theorem dX10_where_31 : decode cX10_where 31 = .ok (.ireturn, 1) := by decide +kernel
theorem dX10_where_32 : decode cX10_where 32 = .ok (.iload_n 2, 1) := by decide +kernel
theorem dX10_where_33 : decode cX10_where 33 = .ok (.iconst 1, 1) := by decide +kernel
theorem dX10_where_34 : decode cX10_where 34 = .ok (.if_icmp .le 32, 3) := by decide +kernel
theorem dX10_where_37 : decode cX10_where 37 = .ok (.aload_n 0, 1) := by decide +kernel
theorem dX10_where_38 : decode cX10_where 38 = .ok (.aload_n 0, 1) := by decide +kernel
theorem dX10_where_39 : decode cX10_where 39 = .ok (.iload_n 1, 1) := by decide +kernel
theorem dX10_where_40 : decode cX10_where 40 = .ok (.sipush 5108, 3) := by decide +kernel
theorem dX10_where_43 : decode cX10_where 43 = .ok (.aload_n 0, 1) := by decide +kernel
theorem dX10_where_44 : decode cX10_where 44 = .ok (.iconst 5, 1) := by decide +kernel
theorem dX10_where_45 : decode cX10_where 45 = .ok (.invokevirtual 48, 3) := by decide +kernel
theorem dX10_where_48 : decode cX10_where 48 = .ok (.iload_n 2, 1) := by decide +kernel
theorem dX10_where_49 : decode cX10_where 49 = .ok (.iconst 3, 1) := by decide +kernel
theorem dX10_where_50 : decode cX10_where 50 = .ok (.if_icmp .ne 7, 3) := by decide +kernel
theorem dX10_where_53 : decode cX10_where 53 = .ok (.iconst 1, 1) := by decide +kernel
theorem dX10_where_54 : decode cX10_where 54 = .ok (.goto 4, 3) := by decide +kernel
theorem dX10_where_57 : decode cX10_where 57 = .ok (.iconst 0, 1) := by decide +kernel
theorem dX10_where_58 : decode cX10_where 58 = .ok (.invokevirtual 327, 3) := by decide +kernel
theorem dX10_where_61 : decode cX10_where 61 = .ok (.i2l, 1) := by decide +kernel
theorem dX10_where_62 : decode cX10_where 62 = .ok (.invokevirtual 298, 3) := by decide +kernel
theorem dX10_where_65 : decode cX10_where 65 = .ok (.ireturn, 1) := by decide +kernel
theorem dX10_where_66 : decode cX10_where 66 = .ok (.iconst 0, 1) := by decide +kernel
theorem dX10_where_67 : decode cX10_where 67 = .ok (.istore_n 3, 1) := by decide +kernel
theorem dX10_where_68 : decode cX10_where 68 = .ok (.iconst 0, 1) := by decide +kernel
theorem dX10_where_69 : decode cX10_where 69 = .ok (.istore 4, 2) := by decide +kernel
theorem dX10_where_71 : decode cX10_where 71 = .ok (.iload 4, 2) := by decide +kernel
theorem dX10_where_73 : decode cX10_where 73 = .ok (.i2l, 1) := by decide +kernel
theorem dX10_where_74 : decode cX10_where 74 = .ok (.aload_n 0, 1) := by decide +kernel
theorem dX10_where_75 : decode cX10_where 75 = .ok (.iconst 0, 1) := by decide +kernel
theorem dX10_where_76 : decode cX10_where 76 = .ok (.invokevirtual 48, 3) := by decide +kernel
theorem dX10_where_79 : decode cX10_where 79 = .ok (.lcmp, 1) := by decide +kernel
theorem dX10_where_80 : decode cX10_where 80 = .ok (.ifCond .ge 63, 3) := by decide +kernel
theorem dX10_where_83 : decode cX10_where 83 = .ok (.iload_n 3, 1) := by decide +kernel
theorem dX10_where_84 : decode cX10_where 84 = .ok (.iload_n 2, 1) := by decide +kernel
theorem dX10_where_85 : decode cX10_where 85 = .ok (.ifCond .ne 28, 3) := by decide +kernel
theorem dX10_where_88 : decode cX10_where 88 = .ok (.aload_n 0, 1) := by decide +kernel
theorem dX10_where_89 : decode cX10_where 89 = .ok (.iload_n 1, 1) := by decide +kernel
theorem dX10_where_90 : decode cX10_where 90 = .ok (.sipush 4208, 3) := by decide +kernel
theorem dX10_where_93 : decode cX10_where 93 = .ok (.bipush 60, 2) := by decide +kernel
theorem dX10_where_95 : decode cX10_where 95 = .ok (.iload 4, 2) := by decide +kernel
theorem dX10_where_97 : decode cX10_where 97 = .ok (.imul, 1) := by decide +kernel
theorem dX10_where_98 : decode cX10_where 98 = .ok (.iadd, 1) := by decide +kernel
theorem dX10_where_99 : decode cX10_where 99 = .ok (.aload_n 0, 1) := by decide +kernel
theorem dX10_where_100 : decode cX10_where 100 = .ok (.iload 4, 2) := by decide +kernel
theorem dX10_where_102 : decode cX10_where 102 = .ok (.iconst 4, 1) := by decide +kernel
theorem dX10_where_103 : decode cX10_where 103 = .ok (.invokevirtual 69, 3) := by decide +kernel
theorem dX10_where_106 : decode cX10_where 106 = .ok (.iconst 0, 1) := by decide +kernel
theorem dX10_where_107 : decode cX10_where 107 = .ok (.invokevirtual 327, 3) := by decide +kernel
theorem dX10_where_110 : decode cX10_where 110 = .ok (.goto 25, 3) := by decide +kernel
theorem dX10_where_113 : decode cX10_where 113 = .ok (.aload_n 0, 1) := by decide +kernel
theorem dX10_where_114 : decode cX10_where 114 = .ok (.iload_n 1, 1) := by decide +kernel
theorem dX10_where_115 : decode cX10_where 115 = .ok (.sipush 4568, 3) := by decide +kernel
theorem dX10_where_118 : decode cX10_where 118 = .ok (.bipush 90, 2) := by decide +kernel
theorem dX10_where_120 : decode cX10_where 120 = .ok (.iload 4, 2) := by decide +kernel
theorem dX10_where_122 : decode cX10_where 122 = .ok (.imul, 1) := by decide +kernel
theorem dX10_where_123 : decode cX10_where 123 = .ok (.iadd, 1) := by decide +kernel
theorem dX10_where_124 : decode cX10_where 124 = .ok (.aload_n 0, 1) := by decide +kernel
theorem dX10_where_125 : decode cX10_where 125 = .ok (.iload 4, 2) := by decide +kernel
theorem dX10_where_127 : decode cX10_where 127 = .ok (.iconst 5, 1) := by decide +kernel
theorem dX10_where_128 : decode cX10_where 128 = .ok (.invokevirtual 69, 3) := by decide +kernel
theorem dX10_where_131 : decode cX10_where 131 = .ok (.iconst 0, 1) := by decide +kernel
theorem dX10_where_132 : decode cX10_where 132 = .ok (.invokevirtual 327, 3) := by decide +kernel
theorem dX10_where_135 : decode cX10_where 135 = .ok (.iadd, 1) := by decide +kernel
theorem dX10_where_136 : decode cX10_where 136 = .ok (.istore_n 3, 1) := by decide +kernel
theorem dX10_where_137 : decode cX10_where 137 = .ok (.iinc 4 1, 3) := by decide +kernel
theorem dX10_where_140 : decode cX10_where 140 = .ok (.goto (-69), 3) := by decide +kernel
theorem dX10_where_143 : decode cX10_where 143 = .ok (.aload_n 0, 1) := by decide +kernel
theorem dX10_where_144 : decode cX10_where 144 = .ok (.iload_n 3, 1) := by decide +kernel
theorem dX10_where_145 : decode cX10_where 145 = .ok (.i2l, 1) := by decide +kernel
theorem dX10_where_146 : decode cX10_where 146 = .ok (.invokevirtual 298, 3) := by decide +kernel
theorem dX10_where_149 : decode cX10_where 149 = .ok (.ireturn, 1) := by decide +kernel
theorem dX10_eldest_0 : decode cX10_eldest 0 = .ok (.aload_n 0, 1) := by decide +kernel
theorem dX10_eldest_1 : decode cX10_eldest 1 = .ok (.iload_n 1, 1) := by decide +kernel
theorem dX10_eldest_2 : decode cX10_eldest 2 = .ok (.invokevirtual 321, 3) := by decide +kernel
theorem dX10_eldest_5 : decode cX10_eldest 5 = .ok (.ifCond .ne 9, 3) := by decide +kernel
theorem dX10_eldest_8 : decode cX10_eldest 8 = .ok (.aload_n 0, 1) := by decide +kernel
theorem dX10_eldest_9 : decode cX10_eldest 9 = .ok (.iconst 2, 1) := by decide +kernel
theorem dX10_eldest_10 : decode cX10_eldest 10 = .ok (.invokevirtual 289, 3) := by decide +kernel
theorem dX10_eldest_13 : decode cX10_eldest 13 = .ok (.ireturn, 1) := by decide +kernel
theorem dX10_eldest_14 : decode cX10_eldest 14 = .ok (.ldc2_w 74, 3) := by decide +kernel
theorem dX10_eldest_17 : decode cX10_eldest 17 = .ok (.lstore_n 2, 1) := by decide +kernel
theorem dX10_eldest_18 : decode cX10_eldest 18 = .ok (.iconst 0, 1) := by decide +kernel
theorem dX10_eldest_19 : decode cX10_eldest 19 = .ok (.istore 4, 2) := by decide +kernel
theorem dX10_eldest_21 : decode cX10_eldest 21 = .ok (.iload 4, 2) := by decide +kernel
theorem dX10_eldest_23 : decode cX10_eldest 23 = .ok (.sipush 480, 3) := by decide +kernel
theorem dX10_eldest_26 : decode cX10_eldest 26 = .ok (.if_icmp .ge 53, 3) := by decide +kernel
theorem dX10_eldest_29 : decode cX10_eldest 29 = .ok (.aload_n 0, 1) := by decide +kernel
theorem dX10_eldest_30 : decode cX10_eldest 30 = .ok (.iload 4, 2) := by decide +kernel
theorem dX10_eldest_32 : decode cX10_eldest 32 = .ok (.invokevirtual 79, 3) := by decide +kernel
theorem dX10_eldest_35 : decode cX10_eldest 35 = .ok (.iload_n 1, 1) := by decide +kernel
theorem dX10_eldest_36 : decode cX10_eldest 36 = .ok (.if_icmp .ne 37, 3) := by decide +kernel
theorem dX10_eldest_39 : decode cX10_eldest 39 = .ok (.lload_n 2, 1) := by decide +kernel
theorem dX10_eldest_40 : decode cX10_eldest 40 = .ok (.ldc2_w 74, 3) := by decide +kernel
theorem dX10_eldest_43 : decode cX10_eldest 43 = .ok (.lcmp, 1) := by decide +kernel
theorem dX10_eldest_44 : decode cX10_eldest 44 = .ok (.ifCond .eq 18, 3) := by decide +kernel
theorem dX10_eldest_47 : decode cX10_eldest 47 = .ok (.aload_n 0, 1) := by decide +kernel
theorem dX10_eldest_48 : decode cX10_eldest 48 = .ok (.iload 4, 2) := by decide +kernel
theorem dX10_eldest_50 : decode cX10_eldest 50 = .ok (.iconst 1, 1) := by decide +kernel
theorem dX10_eldest_51 : decode cX10_eldest 51 = .ok (.invokestatic 55, 3) := by decide +kernel
theorem dX10_eldest_54 : decode cX10_eldest 54 = .ok (.invokevirtual 48, 3) := by decide +kernel
theorem dX10_eldest_57 : decode cX10_eldest 57 = .ok (.lload_n 2, 1) := by decide +kernel
theorem dX10_eldest_58 : decode cX10_eldest 58 = .ok (.lcmp, 1) := by decide +kernel
theorem dX10_eldest_59 : decode cX10_eldest 59 = .ok (.ifCond .ge 14, 3) := by decide +kernel
theorem dX10_eldest_62 : decode cX10_eldest 62 = .ok (.aload_n 0, 1) := by decide +kernel
theorem dX10_eldest_63 : decode cX10_eldest 63 = .ok (.iload 4, 2) := by decide +kernel
theorem dX10_eldest_65 : decode cX10_eldest 65 = .ok (.iconst 1, 1) := by decide +kernel
theorem dX10_eldest_66 : decode cX10_eldest 66 = .ok (.invokestatic 55, 3) := by decide +kernel
theorem dX10_eldest_69 : decode cX10_eldest 69 = .ok (.invokevirtual 48, 3) := by decide +kernel
theorem dX10_eldest_72 : decode cX10_eldest 72 = .ok (.lstore_n 2, 1) := by decide +kernel
theorem dX10_eldest_73 : decode cX10_eldest 73 = .ok (.iinc 4 1, 3) := by decide +kernel
theorem dX10_eldest_76 : decode cX10_eldest 76 = .ok (.goto (-55), 3) := by decide +kernel
theorem dX10_eldest_79 : decode cX10_eldest 79 = .ok (.lload_n 2, 1) := by decide +kernel
theorem dX10_eldest_80 : decode cX10_eldest 80 = .ok (.ldc2_w 74, 3) := by decide +kernel
theorem dX10_eldest_83 : decode cX10_eldest 83 = .ok (.lcmp, 1) := by decide +kernel
theorem dX10_eldest_84 : decode cX10_eldest 84 = .ok (.ifCond .ne 11, 3) := by decide +kernel
theorem dX10_eldest_87 : decode cX10_eldest 87 = .ok (.aload_n 0, 1) := by decide +kernel
theorem dX10_eldest_88 : decode cX10_eldest 88 = .ok (.iconst 5, 1) := by decide +kernel
theorem dX10_eldest_89 : decode cX10_eldest 89 = .ok (.invokevirtual 289, 3) := by decide +kernel
theorem dX10_eldest_92 : decode cX10_eldest 92 = .ok (.goto 8, 3) := by decide +kernel
theorem dX10_eldest_95 : decode cX10_eldest 95 = .ok (.aload_n 0, 1) := by decide +kernel
theorem dX10_eldest_96 : decode cX10_eldest 96 = .ok (.lload_n 2, 1) := by decide +kernel
theorem dX10_eldest_97 : decode cX10_eldest 97 = .ok (.invokevirtual 298, 3) := by decide +kernel
theorem dX10_eldest_100 : decode cX10_eldest 100 = .ok (.ireturn, 1) := by decide +kernel
theorem dX10_past_0 : decode cX10_past 0 = .ok (.iload_n 2, 1) := by decide +kernel
theorem dX10_past_1 : decode cX10_past 1 = .ok (.i2l, 1) := by decide +kernel
theorem dX10_past_2 : decode cX10_past 2 = .ok (.lconst 0, 1) := by decide +kernel
theorem dX10_past_3 : decode cX10_past 3 = .ok (.ldc2_w 331, 3) := by decide +kernel
theorem dX10_past_6 : decode cX10_past 6 = .ok (.invokestatic 252, 3) := by decide +kernel
theorem dX10_past_9 : decode cX10_past 9 = .ok (.ifCond .ne 9, 3) := by decide +kernel
theorem dX10_past_12 : decode cX10_past 12 = .ok (.aload_n 0, 1) := by decide +kernel
theorem dX10_past_13 : decode cX10_past 13 = .ok (.iconst 1, 1) := by decide +kernel
theorem dX10_past_14 : decode cX10_past 14 = .ok (.invokevirtual 289, 3) := by decide +kernel
theorem dX10_past_17 : decode cX10_past 17 = .ok (.ireturn, 1) := by decide +kernel
theorem dX10_past_18 : decode cX10_past 18 = .ok (.aload_n 0, 1) := by decide +kernel
theorem dX10_past_19 : decode cX10_past 19 = .ok (.iload_n 1, 1) := by decide +kernel
theorem dX10_past_20 : decode cX10_past 20 = .ok (.invokevirtual 321, 3) := by decide +kernel
theorem dX10_past_23 : decode cX10_past 23 = .ok (.ifCond .ne 9, 3) := by decide +kernel
theorem dX10_past_26 : decode cX10_past 26 = .ok (.aload_n 0, 1) := by decide +kernel
theorem dX10_past_27 : decode cX10_past 27 = .ok (.iconst 2, 1) := by decide +kernel
theorem dX10_past_28 : decode cX10_past 28 = .ok (.invokevirtual 289, 3) := by decide +kernel
theorem dX10_past_31 : decode cX10_past 31 = .ok (.ireturn, 1) := by decide +kernel
theorem dX10_past_32 : decode cX10_past 32 = .ok (.iload_n 2, 1) := by decide +kernel
theorem dX10_past_33 : decode cX10_past 33 = .ok (.i2l, 1) := by decide +kernel
theorem dX10_past_34 : decode cX10_past 34 = .ok (.aload_n 0, 1) := by decide +kernel
theorem dX10_past_35 : decode cX10_past 35 = .ok (.iconst 4, 1) := by decide +kernel
theorem dX10_past_36 : decode cX10_past 36 = .ok (.invokevirtual 48, 3) := by decide +kernel
theorem dX10_past_39 : decode cX10_past 39 = .ok (.lcmp, 1) := by decide +kernel
theorem dX10_past_40 : decode cX10_past 40 = .ok (.ifCond .ge 32, 3) := by decide +kernel
theorem dX10_past_43 : decode cX10_past 43 = .ok (.aload_n 0, 1) := by decide +kernel
theorem dX10_past_44 : decode cX10_past 44 = .ok (.aload_n 0, 1) := by decide +kernel
theorem dX10_past_45 : decode cX10_past 45 = .ok (.sipush 5684, 3) := by decide +kernel
theorem dX10_past_48 : decode cX10_past 48 = .ok (.bipush 6, 2) := by decide +kernel
theorem dX10_past_50 : decode cX10_past 50 = .ok (.aload_n 0, 1) := by decide +kernel
theorem dX10_past_51 : decode cX10_past 51 = .ok (.iconst 4, 1) := by decide +kernel
theorem dX10_past_52 : decode cX10_past 52 = .ok (.invokevirtual 58, 3) := by decide +kernel
theorem dX10_past_55 : decode cX10_past 55 = .ok (.iconst 1, 1) := by decide +kernel
theorem dX10_past_56 : decode cX10_past 56 = .ok (.isub, 1) := by decide +kernel
theorem dX10_past_57 : decode cX10_past 57 = .ok (.iload_n 2, 1) := by decide +kernel
theorem dX10_past_58 : decode cX10_past 58 = .ok (.isub, 1) := by decide +kernel
theorem dX10_past_59 : decode cX10_past 59 = .ok (.imul, 1) := by decide +kernel
theorem dX10_past_60 : decode cX10_past 60 = .ok (.iadd, 1) := by decide +kernel
theorem dX10_past_61 : decode cX10_past 61 = .ok (.iload_n 1, 1) := by decide +kernel
theorem dX10_past_62 : decode cX10_past 62 = .ok (.iadd, 1) := by decide +kernel
theorem dX10_past_63 : decode cX10_past 63 = .ok (.invokevirtual 48, 3) := by decide +kernel
theorem dX10_past_66 : decode cX10_past 66 = .ok (.invokevirtual 298, 3) := by decide +kernel
theorem dX10_past_69 : decode cX10_past 69 = .ok (.goto 8, 3) := by decide +kernel
theorem dX10_past_72 : decode cX10_past 72 = .ok (.aload_n 0, 1) := by decide +kernel
theorem dX10_past_73 : decode cX10_past 73 = .ok (.iconst 5, 1) := by decide +kernel
theorem dX10_past_74 : decode cX10_past 74 = .ok (.invokevirtual 289, 3) := by decide +kernel
theorem dX10_past_77 : decode cX10_past 77 = .ok (.ireturn, 1) := by decide +kernel
theorem dX10_top_0 : decode cX10_top 0 = .ok (.iload_n 1, 1) := by decide +kernel
theorem dX10_top_1 : decode cX10_top 1 = .ok (.i2l, 1) := by decide +kernel
theorem dX10_top_2 : decode cX10_top 2 = .ok (.lconst 0, 1) := by decide +kernel
theorem dX10_top_3 : decode cX10_top 3 = .ok (.ldc2_w 116, 3) := by decide +kernel
theorem dX10_top_6 : decode cX10_top 6 = .ok (.invokestatic 252, 3) := by decide +kernel
theorem dX10_top_9 : decode cX10_top 9 = .ok (.ifCond .ne 9, 3) := by decide +kernel
theorem dX10_top_12 : decode cX10_top 12 = .ok (.aload_n 0, 1) := by decide +kernel
theorem dX10_top_13 : decode cX10_top 13 = .ok (.iconst 1, 1) := by decide +kernel
theorem dX10_top_14 : decode cX10_top 14 = .ok (.invokevirtual 289, 3) := by decide +kernel
theorem dX10_top_17 : decode cX10_top 17 = .ok (.ireturn, 1) := by decide +kernel
theorem dX10_top_18 : decode cX10_top 18 = .ok (.aload_n 0, 1) := by decide +kernel
theorem dX10_top_19 : decode cX10_top 19 = .ok (.iconst 1, 1) := by decide +kernel
theorem dX10_top_20 : decode cX10_top 20 = .ok (.invokevirtual 48, 3) := by decide +kernel
theorem dX10_top_23 : decode cX10_top 23 = .ok (.lconst 0, 1) := by decide +kernel
theorem dX10_top_24 : decode cX10_top 24 = .ok (.lcmp, 1) := by decide +kernel
theorem dX10_top_25 : decode cX10_top 25 = .ok (.ifCond .ne 9, 3) := by decide +kernel
theorem dX10_top_28 : decode cX10_top 28 = .ok (.aload_n 0, 1) := by decide +kernel
theorem dX10_top_29 : decode cX10_top 29 = .ok (.iconst 5, 1) := by decide +kernel
theorem dX10_top_30 : decode cX10_top 30 = .ok (.invokevirtual 289, 3) := by decide +kernel
theorem dX10_top_33 : decode cX10_top 33 = .ok (.ireturn, 1) := by decide +kernel
theorem dX10_top_34 : decode cX10_top 34 = .ok (.iload_n 1, 1) := by decide +kernel
theorem dX10_top_35 : decode cX10_top 35 = .ok (.ifCond .ne 7, 3) := by decide +kernel
theorem dX10_top_38 : decode cX10_top 38 = .ok (.iconst 5, 1) := by decide +kernel
theorem dX10_top_39 : decode cX10_top 39 = .ok (.goto 15, 3) := by decide +kernel
theorem dX10_top_42 : decode cX10_top 42 = .ok (.iload_n 1, 1) := by decide +kernel
theorem dX10_top_43 : decode cX10_top 43 = .ok (.iconst 1, 1) := by decide +kernel
theorem dX10_top_44 : decode cX10_top 44 = .ok (.if_icmp .ne 8, 3) := by decide +kernel
theorem dX10_top_47 : decode cX10_top 47 = .ok (.bipush 9, 2) := by decide +kernel
theorem dX10_top_49 : decode cX10_top 49 = .ok (.goto 5, 3) := by decide +kernel
theorem dX10_top_52 : decode cX10_top 52 = .ok (.bipush 10, 2) := by decide +kernel
theorem dX10_top_54 : decode cX10_top 54 = .ok (.istore_n 2, 1) := by decide +kernel
theorem dX10_top_55 : decode cX10_top 55 = .ok (.iconst 0, 1) := by decide +kernel
theorem dX10_top_56 : decode cX10_top 56 = .ok (.istore_n 3, 1) := by decide +kernel
theorem dX10_top_57 : decode cX10_top 57 = .ok (.iconst 1, 1) := by decide +kernel
theorem dX10_top_58 : decode cX10_top 58 = .ok (.istore 4, 2) := by decide +kernel
theorem dX10_top_60 : decode cX10_top 60 = .ok (.iload 4, 2) := by decide +kernel
theorem dX10_top_62 : decode cX10_top 62 = .ok (.i2l, 1) := by decide +kernel
theorem dX10_top_63 : decode cX10_top 63 = .ok (.aload_n 0, 1) := by decide +kernel
theorem dX10_top_64 : decode cX10_top 64 = .ok (.iconst 1, 1) := by decide +kernel
theorem dX10_top_65 : decode cX10_top 65 = .ok (.invokevirtual 48, 3) := by decide +kernel
theorem dX10_top_68 : decode cX10_top 68 = .ok (.lcmp, 1) := by decide +kernel
theorem dX10_top_69 : decode cX10_top 69 = .ok (.ifCond .ge 29, 3) := by decide +kernel
theorem dX10_top_72 : decode cX10_top 72 = .ok (.aload_n 0, 1) := by decide +kernel
theorem dX10_top_73 : decode cX10_top 73 = .ok (.iload 4, 2) := by decide +kernel
theorem dX10_top_75 : decode cX10_top 75 = .ok (.iload_n 2, 1) := by decide +kernel
theorem dX10_top_76 : decode cX10_top 76 = .ok (.invokevirtual 62, 3) := by decide +kernel
theorem dX10_top_79 : decode cX10_top 79 = .ok (.aload_n 0, 1) := by decide +kernel
theorem dX10_top_80 : decode cX10_top 80 = .ok (.iload_n 3, 1) := by decide +kernel
theorem dX10_top_81 : decode cX10_top 81 = .ok (.iload_n 2, 1) := by decide +kernel
theorem dX10_top_82 : decode cX10_top 82 = .ok (.invokevirtual 62, 3) := by decide +kernel
theorem dX10_top_85 : decode cX10_top 85 = .ok (.lcmp, 1) := by decide +kernel
theorem dX10_top_86 : decode cX10_top 86 = .ok (.ifCond .le 6, 3) := by decide +kernel
theorem dX10_top_89 : decode cX10_top 89 = .ok (.iload 4, 2) := by decide +kernel
theorem dX10_top_91 : decode cX10_top 91 = .ok (.istore_n 3, 1) := by decide +kernel
theorem dX10_top_92 : decode cX10_top 92 = .ok (.iinc 4 1, 3) := by decide +kernel
theorem dX10_top_95 : decode cX10_top 95 = .ok (.goto (-35), 3) := by decide +kernel
theorem dX10_top_98 : decode cX10_top 98 = .ok (.aload_n 0, 1) := by decide +kernel
theorem dX10_top_99 : decode cX10_top 99 = .ok (.iload_n 3, 1) := by decide +kernel
theorem dX10_top_100 : decode cX10_top 100 = .ok (.i2l, 1) := by decide +kernel
theorem dX10_top_101 : decode cX10_top 101 = .ok (.invokevirtual 298, 3) := by decide +kernel
theorem dX10_top_104 : decode cX10_top 104 = .ok (.ireturn, 1) := by decide +kernel
theorem dX10_isLike_0 : decode cX10_isLike 0 = .ok (.aload_n 0, 1) := by decide +kernel
theorem dX10_isLike_1 : decode cX10_isLike 1 = .ok (.iload_n 1, 1) := by decide +kernel
theorem dX10_isLike_2 : decode cX10_isLike 2 = .ok (.iconst 0, 1) := by decide +kernel
theorem dX10_isLike_3 : decode cX10_isLike 3 = .ok (.invokestatic 52, 3) := by decide +kernel
theorem dX10_isLike_6 : decode cX10_isLike 6 = .ok (.invokevirtual 58, 3) := by decide +kernel
theorem dX10_isLike_9 : decode cX10_isLike 9 = .ok (.istore 4, 2) := by decide +kernel
theorem dX10_isLike_11 : decode cX10_isLike 11 = .ok (.iload 4, 2) := by decide +kernel
theorem dX10_isLike_13 : decode cX10_isLike 13 = .ok (.i2l, 1) := by decide +kernel
theorem dX10_isLike_14 : decode cX10_isLike 14 = .ok (.aload_n 0, 1) := by decide +kernel
theorem dX10_isLike_15 : decode cX10_isLike 15 = .ok (.iload_n 2, 1) := by decide +kernel
theorem dX10_isLike_16 : decode cX10_isLike 16 = .ok (.iconst 0, 1) := by decide +kernel
theorem dX10_isLike_17 : decode cX10_isLike 17 = .ok (.invokevirtual 62, 3) := by decide +kernel
theorem dX10_isLike_20 : decode cX10_isLike 20 = .ok (.lcmp, 1) := by decide +kernel
theorem dX10_isLike_21 : decode cX10_isLike 21 = .ok (.ifCond .ne 7, 3) := by decide +kernel
theorem dX10_isLike_24 : decode cX10_isLike 24 = .ok (.iconst 1, 1) := by decide +kernel
theorem dX10_isLike_25 : decode cX10_isLike 25 = .ok (.goto 4, 3) := by decide +kernel
theorem dX10_isLike_28 : decode cX10_isLike 28 = .ok (.iconst 0, 1) := by decide +kernel
theorem dX10_isLike_29 : decode cX10_isLike 29 = .ok (.istore 5, 2) := by decide +kernel
theorem dX10_isLike_31 : decode cX10_isLike 31 = .ok (.iconst 0, 1) := by decide +kernel
theorem dX10_isLike_32 : decode cX10_isLike 32 = .ok (.istore 6, 2) := by decide +kernel
theorem dX10_isLike_34 : decode cX10_isLike 34 = .ok (.iload 6, 2) := by decide +kernel
theorem dX10_isLike_36 : decode cX10_isLike 36 = .ok (.iload 4, 2) := by decide +kernel
theorem dX10_isLike_38 : decode cX10_isLike 38 = .ok (.if_icmp .ge 52, 3) := by decide +kernel
theorem dX10_isLike_41 : decode cX10_isLike 41 = .ok (.iload 5, 2) := by decide +kernel
theorem dX10_isLike_43 : decode cX10_isLike 43 = .ok (.ifCond .eq 47, 3) := by decide +kernel
theorem dX10_isLike_46 : decode cX10_isLike 46 = .ok (.aload_n 0, 1) := by decide +kernel
theorem dX10_isLike_47 : decode cX10_isLike 47 = .ok (.iload_n 1, 1) := by decide +kernel
theorem dX10_isLike_48 : decode cX10_isLike 48 = .ok (.iload 6, 2) := by decide +kernel
theorem dX10_isLike_50 : decode cX10_isLike 50 = .ok (.invokevirtual 66, 3) := by decide +kernel
theorem dX10_isLike_53 : decode cX10_isLike 53 = .ok (.aload_n 0, 1) := by decide +kernel
theorem dX10_isLike_54 : decode cX10_isLike 54 = .ok (.iload_n 2, 1) := by decide +kernel
theorem dX10_isLike_55 : decode cX10_isLike 55 = .ok (.iload_n 3, 1) := by decide +kernel
theorem dX10_isLike_56 : decode cX10_isLike 56 = .ok (.ifCond .eq 13, 3) := by decide +kernel
theorem dX10_isLike_59 : decode cX10_isLike 59 = .ok (.iload 4, 2) := by decide +kernel
theorem dX10_isLike_61 : decode cX10_isLike 61 = .ok (.iconst 1, 1) := by decide +kernel
theorem dX10_isLike_62 : decode cX10_isLike 62 = .ok (.isub, 1) := by decide +kernel
theorem dX10_isLike_63 : decode cX10_isLike 63 = .ok (.iload 6, 2) := by decide +kernel
theorem dX10_isLike_65 : decode cX10_isLike 65 = .ok (.isub, 1) := by decide +kernel
theorem dX10_isLike_66 : decode cX10_isLike 66 = .ok (.goto 5, 3) := by decide +kernel
theorem dX10_isLike_69 : decode cX10_isLike 69 = .ok (.iload 6, 2) := by decide +kernel
theorem dX10_isLike_71 : decode cX10_isLike 71 = .ok (.invokevirtual 66, 3) := by decide +kernel
theorem dX10_isLike_74 : decode cX10_isLike 74 = .ok (.if_icmp .ne 7, 3) := by decide +kernel
theorem dX10_isLike_77 : decode cX10_isLike 77 = .ok (.iconst 1, 1) := by decide +kernel
theorem dX10_isLike_78 : decode cX10_isLike 78 = .ok (.goto 4, 3) := by decide +kernel
theorem dX10_isLike_81 : decode cX10_isLike 81 = .ok (.iconst 0, 1) := by decide +kernel
theorem dX10_isLike_82 : decode cX10_isLike 82 = .ok (.istore 5, 2) := by decide +kernel
theorem dX10_isLike_84 : decode cX10_isLike 84 = .ok (.iinc 6 1, 3) := by decide +kernel
theorem dX10_isLike_87 : decode cX10_isLike 87 = .ok (.goto (-53), 3) := by decide +kernel
theorem dX10_isLike_90 : decode cX10_isLike 90 = .ok (.iload 5, 2) := by decide +kernel
theorem dX10_isLike_92 : decode cX10_isLike 92 = .ok (.ireturn, 1) := by decide +kernel
theorem dX10_alike_0 : decode cX10_alike 0 = .ok (.aload_n 0, 1) := by decide +kernel
theorem dX10_alike_1 : decode cX10_alike 1 = .ok (.iload_n 1, 1) := by decide +kernel
theorem dX10_alike_2 : decode cX10_alike 2 = .ok (.invokevirtual 321, 3) := by decide +kernel
theorem dX10_alike_5 : decode cX10_alike 5 = .ok (.ifCond .eq 11, 3) := by decide +kernel
theorem dX10_alike_8 : decode cX10_alike 8 = .ok (.aload_n 0, 1) := by decide +kernel
theorem dX10_alike_9 : decode cX10_alike 9 = .ok (.iload_n 2, 1) := by decide +kernel
theorem dX10_alike_10 : decode cX10_alike 10 = .ok (.invokevirtual 321, 3) := by decide +kernel
theorem dX10_alike_13 : decode cX10_alike 13 = .ok (.ifCond .ne 9, 3) := by decide +kernel
theorem dX10_alike_16 : decode cX10_alike 16 = .ok (.aload_n 0, 1) := by decide +kernel
theorem dX10_alike_17 : decode cX10_alike 17 = .ok (.iconst 2, 1) := by decide +kernel
theorem dX10_alike_18 : decode cX10_alike 18 = .ok (.invokevirtual 289, 3) := by decide +kernel
theorem dX10_alike_21 : decode cX10_alike 21 = .ok (.ireturn, 1) := by decide +kernel
theorem dX10_alike_22 : decode cX10_alike 22 = .ok (.aload_n 0, 1) := by decide +kernel
theorem dX10_alike_23 : decode cX10_alike 23 = .ok (.aload_n 0, 1) := by decide +kernel
theorem dX10_alike_24 : decode cX10_alike 24 = .ok (.iload_n 1, 1) := by decide +kernel
theorem dX10_alike_25 : decode cX10_alike 25 = .ok (.iload_n 2, 1) := by decide +kernel
theorem dX10_alike_26 : decode cX10_alike 26 = .ok (.iconst 0, 1) := by decide +kernel
theorem dX10_alike_27 : decode cX10_alike 27 = .ok (.invokevirtual 333, 3) := by decide +kernel
theorem dX10_alike_30 : decode cX10_alike 30 = .ok (.ifCond .eq 9, 3) := by decide +kernel
theorem dX10_alike_33 : decode cX10_alike 33 = .ok (.ldc2_w 116, 3) := by decide +kernel
theorem dX10_alike_36 : decode cX10_alike 36 = .ok (.goto 18, 3) := by decide +kernel
theorem dX10_alike_39 : decode cX10_alike 39 = .ok (.aload_n 0, 1) := by decide +kernel
theorem dX10_alike_40 : decode cX10_alike 40 = .ok (.iload_n 1, 1) := by decide +kernel
theorem dX10_alike_41 : decode cX10_alike 41 = .ok (.iload_n 2, 1) := by decide +kernel
theorem dX10_alike_42 : decode cX10_alike 42 = .ok (.iconst 1, 1) := by decide +kernel
theorem dX10_alike_43 : decode cX10_alike 43 = .ok (.invokevirtual 333, 3) := by decide +kernel
theorem dX10_alike_46 : decode cX10_alike 46 = .ok (.ifCond .eq 7, 3) := by decide +kernel
theorem dX10_alike_49 : decode cX10_alike 49 = .ok (.lconst 1, 1) := by decide +kernel
theorem dX10_alike_50 : decode cX10_alike 50 = .ok (.goto 4, 3) := by decide +kernel
theorem dX10_alike_53 : decode cX10_alike 53 = .ok (.lconst 0, 1) := by decide +kernel
theorem dX10_alike_54 : decode cX10_alike 54 = .ok (.invokevirtual 298, 3) := by decide +kernel
theorem dX10_alike_57 : decode cX10_alike 57 = .ok (.ireturn, 1) := by decide +kernel
theorem dX10_turned_0 : decode cX10_turned 0 = .ok (.aload_n 0, 1) := by decide +kernel
theorem dX10_turned_1 : decode cX10_turned 1 = .ok (.iload_n 1, 1) := by decide +kernel
theorem dX10_turned_2 : decode cX10_turned 2 = .ok (.invokevirtual 48, 3) := by decide +kernel
theorem dX10_turned_5 : decode cX10_turned 5 = .ok (.lstore_n 3, 1) := by decide +kernel
theorem dX10_turned_6 : decode cX10_turned 6 = .ok (.lload_n 3, 1) := by decide +kernel
theorem dX10_turned_7 : decode cX10_turned 7 = .ok (.iload_n 2, 1) := by decide +kernel
theorem dX10_turned_8 : decode cX10_turned 8 = .ok (.i2l, 1) := by decide +kernel
theorem dX10_turned_9 : decode cX10_turned 9 = .ok (.lcmp, 1) := by decide +kernel
theorem dX10_turned_10 : decode cX10_turned 10 = .ok (.ifCond .ne 9, 3) := by decide +kernel
theorem dX10_turned_13 : decode cX10_turned 13 = .ok (.aload_n 0, 1) := by decide +kernel
theorem dX10_turned_14 : decode cX10_turned 14 = .ok (.iconst 4, 1) := by decide +kernel
theorem dX10_turned_15 : decode cX10_turned 15 = .ok (.invokevirtual 289, 3) := by decide +kernel
theorem dX10_turned_18 : decode cX10_turned 18 = .ok (.ireturn, 1) := by decide +kernel
theorem dX10_turned_19 : decode cX10_turned 19 = .ok (.aload_n 0, 1) := by decide +kernel
theorem dX10_turned_20 : decode cX10_turned 20 = .ok (.iload_n 1, 1) := by decide +kernel
theorem dX10_turned_21 : decode cX10_turned 21 = .ok (.iload_n 2, 1) := by decide +kernel
theorem dX10_turned_22 : decode cX10_turned 22 = .ok (.i2l, 1) := by decide +kernel
theorem dX10_turned_23 : decode cX10_turned 23 = .ok (.invokevirtual 40, 3) := by decide +kernel
theorem dX10_turned_26 : decode cX10_turned 26 = .ok (.aload_n 0, 1) := by decide +kernel
theorem dX10_turned_27 : decode cX10_turned 27 = .ok (.lload_n 3, 1) := by decide +kernel
theorem dX10_turned_28 : decode cX10_turned 28 = .ok (.invokevirtual 298, 3) := by decide +kernel
theorem dX10_turned_31 : decode cX10_turned 31 = .ok (.ireturn, 1) := by decide +kernel
theorem dX10_set_0 : decode cX10_set 0 = .ok (.iload_n 2, 1) := by decide +kernel
theorem dX10_set_1 : decode cX10_set 1 = .ok (.ifCond .ne 15, 3) := by decide +kernel
theorem dX10_set_4 : decode cX10_set 4 = .ok (.iload_n 3, 1) := by decide +kernel
theorem dX10_set_5 : decode cX10_set 5 = .ok (.i2l, 1) := by decide +kernel
theorem dX10_set_6 : decode cX10_set 6 = .ok (.lconst 1, 1) := by decide +kernel
theorem dX10_set_7 : decode cX10_set 7 = .ok (.ldc2_w 337, 3) := by decide +kernel
theorem dX10_set_10 : decode cX10_set 10 = .ok (.invokestatic 252, 3) := by decide +kernel
theorem dX10_set_13 : decode cX10_set 13 = .ok (.goto 44, 3) := by decide +kernel
theorem dX10_set_16 : decode cX10_set 16 = .ok (.iload_n 2, 1) := by decide +kernel
theorem dX10_set_17 : decode cX10_set 17 = .ok (.iconst 1, 1) := by decide +kernel
theorem dX10_set_18 : decode cX10_set 18 = .ok (.if_icmp .ne 15, 3) := by decide +kernel
theorem dX10_set_21 : decode cX10_set 21 = .ok (.iload_n 3, 1) := by decide +kernel
theorem dX10_set_22 : decode cX10_set 22 = .ok (.i2l, 1) := by decide +kernel
theorem dX10_set_23 : decode cX10_set 23 = .ok (.lconst 1, 1) := by decide +kernel
theorem dX10_set_24 : decode cX10_set 24 = .ok (.ldc2_w 339, 3) := by decide +kernel
theorem dX10_set_27 : decode cX10_set 27 = .ok (.invokestatic 252, 3) := by decide +kernel
theorem dX10_set_30 : decode cX10_set 30 = .ok (.goto 27, 3) := by decide +kernel
theorem dX10_set_33 : decode cX10_set 33 = .ok (.iload_n 2, 1) := by decide +kernel
theorem dX10_set_34 : decode cX10_set 34 = .ok (.iconst 2, 1) := by decide +kernel
theorem dX10_set_35 : decode cX10_set 35 = .ok (.if_icmp .ne 21, 3) := by decide +kernel
theorem dX10_set_38 : decode cX10_set 38 = .ok (.iload_n 3, 1) := by decide +kernel
theorem dX10_set_39 : decode cX10_set 39 = .ok (.i2l, 1) := by decide +kernel
theorem dX10_set_40 : decode cX10_set 40 = .ok (.ldc2_w 116, 3) := by decide +kernel
theorem dX10_set_43 : decode cX10_set 43 = .ok (.ldc2_w 341, 3) := by decide +kernel
theorem dX10_set_46 : decode cX10_set 46 = .ok (.invokestatic 252, 3) := by decide +kernel
theorem dX10_set_49 : decode cX10_set 49 = .ok (.ifCond .eq 7, 3) := by decide +kernel
theorem dX10_set_52 : decode cX10_set 52 = .ok (.iconst 1, 1) := by decide +kernel
theorem dX10_set_53 : decode cX10_set 53 = .ok (.goto 4, 3) := by decide +kernel
theorem dX10_set_56 : decode cX10_set 56 = .ok (.iconst 0, 1) := by decide +kernel
theorem dX10_set_57 : decode cX10_set 57 = .ok (.istore 4, 2) := by decide +kernel
theorem dX10_set_59 : decode cX10_set 59 = .ok (.iload 4, 2) := by decide +kernel
theorem dX10_set_61 : decode cX10_set 61 = .ok (.ifCond .ne 9, 3) := by decide +kernel
theorem dX10_set_64 : decode cX10_set 64 = .ok (.aload_n 0, 1) := by decide +kernel
theorem dX10_set_65 : decode cX10_set 65 = .ok (.iconst 1, 1) := by decide +kernel
theorem dX10_set_66 : decode cX10_set 66 = .ok (.invokevirtual 289, 3) := by decide +kernel
theorem dX10_set_69 : decode cX10_set 69 = .ok (.ireturn, 1) := by decide +kernel
theorem dX10_set_70 : decode cX10_set 70 = .ok (.aload_n 0, 1) := by decide +kernel
theorem dX10_set_71 : decode cX10_set 71 = .ok (.iload_n 1, 1) := by decide +kernel
theorem dX10_set_72 : decode cX10_set 72 = .ok (.invokevirtual 316, 3) := by decide +kernel
theorem dX10_set_75 : decode cX10_set 75 = .ok (.ifCond .ne 9, 3) := by decide +kernel
theorem dX10_set_78 : decode cX10_set 78 = .ok (.aload_n 0, 1) := by decide +kernel
theorem dX10_set_79 : decode cX10_set 79 = .ok (.iconst 2, 1) := by decide +kernel
theorem dX10_set_80 : decode cX10_set 80 = .ok (.invokevirtual 289, 3) := by decide +kernel
theorem dX10_set_83 : decode cX10_set 83 = .ok (.ireturn, 1) := by decide +kernel
theorem dX10_set_84 : decode cX10_set 84 = .ok (.aload_n 0, 1) := by decide +kernel
theorem dX10_set_85 : decode cX10_set 85 = .ok (.iload_n 1, 1) := by decide +kernel
theorem dX10_set_86 : decode cX10_set 86 = .ok (.iload_n 2, 1) := by decide +kernel
theorem dX10_set_87 : decode cX10_set 87 = .ok (.ifCond .ne 7, 3) := by decide +kernel
theorem dX10_set_90 : decode cX10_set 90 = .ok (.iconst 0, 1) := by decide +kernel
theorem dX10_set_91 : decode cX10_set 91 = .ok (.goto 13, 3) := by decide +kernel
theorem dX10_set_94 : decode cX10_set 94 = .ok (.iload_n 2, 1) := by decide +kernel
theorem dX10_set_95 : decode cX10_set 95 = .ok (.iconst 1, 1) := by decide +kernel
theorem dX10_set_96 : decode cX10_set 96 = .ok (.if_icmp .ne 7, 3) := by decide +kernel
theorem dX10_set_99 : decode cX10_set 99 = .ok (.iconst 2, 1) := by decide +kernel
theorem dX10_set_100 : decode cX10_set 100 = .ok (.goto 4, 3) := by decide +kernel
theorem dX10_set_103 : decode cX10_set 103 = .ok (.iconst 3, 1) := by decide +kernel
theorem dX10_set_104 : decode cX10_set 104 = .ok (.invokestatic 44, 3) := by decide +kernel
theorem dX10_set_107 : decode cX10_set 107 = .ok (.iload_n 3, 1) := by decide +kernel
theorem dX10_set_108 : decode cX10_set 108 = .ok (.invokevirtual 343, 3) := by decide +kernel
theorem dX10_set_111 : decode cX10_set 111 = .ok (.ireturn, 1) := by decide +kernel
theorem dX10_turn_0 : decode cX10_turn 0 = .ok (.aload_n 0, 1) := by decide +kernel
theorem dX10_turn_1 : decode cX10_turn 1 = .ok (.iload_n 1, 1) := by decide +kernel
theorem dX10_turn_2 : decode cX10_turn 2 = .ok (.invokevirtual 321, 3) := by decide +kernel
theorem dX10_turn_5 : decode cX10_turn 5 = .ok (.ifCond .ne 9, 3) := by decide +kernel
theorem dX10_turn_8 : decode cX10_turn 8 = .ok (.aload_n 0, 1) := by decide +kernel
theorem dX10_turn_9 : decode cX10_turn 9 = .ok (.iconst 2, 1) := by decide +kernel
theorem dX10_turn_10 : decode cX10_turn 10 = .ok (.invokevirtual 346, 3) := by decide +kernel
theorem dX10_turn_13 : decode cX10_turn 13 = .ok (.ireturn, 1) := by decide +kernel
theorem dX10_turn_14 : decode cX10_turn 14 = .ok (.aload_n 0, 1) := by decide +kernel
theorem dX10_turn_15 : decode cX10_turn 15 = .ok (.iload_n 1, 1) := by decide +kernel
theorem dX10_turn_16 : decode cX10_turn 16 = .ok (.invokevirtual 181, 3) := by decide +kernel
theorem dX10_turn_19 : decode cX10_turn 19 = .ok (.iload_n 2, 1) := by decide +kernel
theorem dX10_turn_20 : decode cX10_turn 20 = .ok (.if_icmp .ne 9, 3) := by decide +kernel
theorem dX10_turn_23 : decode cX10_turn 23 = .ok (.aload_n 0, 1) := by decide +kernel
theorem dX10_turn_24 : decode cX10_turn 24 = .ok (.iconst 4, 1) := by decide +kernel
theorem dX10_turn_25 : decode cX10_turn 25 = .ok (.invokevirtual 346, 3) := by decide +kernel
theorem dX10_turn_28 : decode cX10_turn 28 = .ok (.ireturn, 1) := by decide +kernel
theorem dX10_turn_29 : decode cX10_turn 29 = .ok (.aload_n 0, 1) := by decide +kernel
theorem dX10_turn_30 : decode cX10_turn 30 = .ok (.iload_n 1, 1) := by decide +kernel
theorem dX10_turn_31 : decode cX10_turn 31 = .ok (.iconst 3, 1) := by decide +kernel
theorem dX10_turn_32 : decode cX10_turn 32 = .ok (.invokestatic 52, 3) := by decide +kernel
theorem dX10_turn_35 : decode cX10_turn 35 = .ok (.iload_n 2, 1) := by decide +kernel
theorem dX10_turn_36 : decode cX10_turn 36 = .ok (.ifCond .eq 7, 3) := by decide +kernel
theorem dX10_turn_39 : decode cX10_turn 39 = .ok (.lconst 1, 1) := by decide +kernel
theorem dX10_turn_40 : decode cX10_turn 40 = .ok (.goto 4, 3) := by decide +kernel
theorem dX10_turn_43 : decode cX10_turn 43 = .ok (.lconst 0, 1) := by decide +kernel
theorem dX10_turn_44 : decode cX10_turn 44 = .ok (.invokevirtual 40, 3) := by decide +kernel
theorem dX10_turn_47 : decode cX10_turn 47 = .ok (.aload_n 0, 1) := by decide +kernel
theorem dX10_turn_48 : decode cX10_turn 48 = .ok (.iconst 0, 1) := by decide +kernel
theorem dX10_turn_49 : decode cX10_turn 49 = .ok (.invokevirtual 346, 3) := by decide +kernel
theorem dX10_turn_52 : decode cX10_turn 52 = .ok (.ireturn, 1) := by decide +kernel
theorem dX10_more_0 : decode cX10_more 0 = .ok (.iload_n 2, 1) := by decide +kernel
theorem dX10_more_1 : decode cX10_more 1 = .ok (.i2l, 1) := by decide +kernel
theorem dX10_more_2 : decode cX10_more 2 = .ok (.lconst 1, 1) := by decide +kernel
theorem dX10_more_3 : decode cX10_more 3 = .ok (.ldc2_w 111, 3) := by decide +kernel
theorem dX10_more_6 : decode cX10_more 6 = .ok (.invokestatic 252, 3) := by decide +kernel
theorem dX10_more_9 : decode cX10_more 9 = .ok (.ifCond .ne 9, 3) := by decide +kernel
theorem dX10_more_12 : decode cX10_more 12 = .ok (.aload_n 0, 1) := by decide +kernel
theorem dX10_more_13 : decode cX10_more 13 = .ok (.iconst 1, 1) := by decide +kernel
theorem dX10_more_14 : decode cX10_more 14 = .ok (.invokevirtual 289, 3) := by decide +kernel
theorem dX10_more_17 : decode cX10_more 17 = .ok (.ireturn, 1) := by decide +kernel
theorem dX10_more_18 : decode cX10_more 18 = .ok (.aload_n 0, 1) := by decide +kernel
theorem dX10_more_19 : decode cX10_more 19 = .ok (.iload_n 1, 1) := by decide +kernel
theorem dX10_more_20 : decode cX10_more 20 = .ok (.invokevirtual 321, 3) := by decide +kernel
theorem dX10_more_23 : decode cX10_more 23 = .ok (.ifCond .ne 9, 3) := by decide +kernel
theorem dX10_more_26 : decode cX10_more 26 = .ok (.aload_n 0, 1) := by decide +kernel
theorem dX10_more_27 : decode cX10_more 27 = .ok (.iconst 2, 1) := by decide +kernel
theorem dX10_more_28 : decode cX10_more 28 = .ok (.invokevirtual 289, 3) := by decide +kernel
theorem dX10_more_31 : decode cX10_more 31 = .ok (.ireturn, 1) := by decide +kernel
theorem dX10_more_32 : decode cX10_more 32 = .ok (.aload_n 0, 1) := by decide +kernel
theorem dX10_more_33 : decode cX10_more 33 = .ok (.iload_n 1, 1) := by decide +kernel
theorem dX10_more_34 : decode cX10_more 34 = .ok (.iconst 1, 1) := by decide +kernel
theorem dX10_more_35 : decode cX10_more 35 = .ok (.invokevirtual 62, 3) := by decide +kernel
theorem dX10_more_38 : decode cX10_more 38 = .ok (.iload_n 2, 1) := by decide +kernel
theorem dX10_more_39 : decode cX10_more 39 = .ok (.i2l, 1) := by decide +kernel
theorem dX10_more_40 : decode cX10_more 40 = .ok (.ladd, 1) := by decide +kernel
theorem dX10_more_41 : decode cX10_more 41 = .ok (.ldc2_w 111, 3) := by decide +kernel
theorem dX10_more_44 : decode cX10_more 44 = .ok (.lcmp, 1) := by decide +kernel
theorem dX10_more_45 : decode cX10_more 45 = .ok (.ifCond .le 9, 3) := by decide +kernel
theorem dX10_more_48 : decode cX10_more 48 = .ok (.aload_n 0, 1) := by decide +kernel
theorem dX10_more_49 : decode cX10_more 49 = .ok (.iconst 3, 1) := by decide +kernel
theorem dX10_more_50 : decode cX10_more 50 = .ok (.invokevirtual 289, 3) := by decide +kernel
theorem dX10_more_53 : decode cX10_more 53 = .ok (.ireturn, 1) := by decide +kernel
theorem dX10_more_54 : decode cX10_more 54 = .ok (.aload_n 0, 1) := by decide +kernel
theorem dX10_more_55 : decode cX10_more 55 = .ok (.iload_n 1, 1) := by decide +kernel
theorem dX10_more_56 : decode cX10_more 56 = .ok (.iconst 1, 1) := by decide +kernel
theorem dX10_more_57 : decode cX10_more 57 = .ok (.invokestatic 52, 3) := by decide +kernel
theorem dX10_more_60 : decode cX10_more 60 = .ok (.iload_n 2, 1) := by decide +kernel
theorem dX10_more_61 : decode cX10_more 61 = .ok (.i2l, 1) := by decide +kernel
theorem dX10_more_62 : decode cX10_more 62 = .ok (.invokevirtual 76, 3) := by decide +kernel
theorem dX10_more_65 : decode cX10_more 65 = .ok (.aload_n 0, 1) := by decide +kernel
theorem dX10_more_66 : decode cX10_more 66 = .ok (.aload_n 0, 1) := by decide +kernel
theorem dX10_more_67 : decode cX10_more 67 = .ok (.iload_n 1, 1) := by decide +kernel
theorem dX10_more_68 : decode cX10_more 68 = .ok (.iconst 1, 1) := by decide +kernel
theorem dX10_more_69 : decode cX10_more 69 = .ok (.invokevirtual 62, 3) := by decide +kernel
theorem dX10_more_72 : decode cX10_more 72 = .ok (.invokevirtual 298, 3) := by decide +kernel
theorem dX10_more_75 : decode cX10_more 75 = .ok (.ireturn, 1) := by decide +kernel
theorem dX10_kind_0 : decode cX10_kind 0 = .ok (.iload_n 2, 1) := by decide +kernel
theorem dX10_kind_1 : decode cX10_kind 1 = .ok (.i2l, 1) := by decide +kernel
theorem dX10_kind_2 : decode cX10_kind 2 = .ok (.lconst 0, 1) := by decide +kernel
theorem dX10_kind_3 : decode cX10_kind 3 = .ok (.ldc2_w 134, 3) := by decide +kernel
theorem dX10_kind_6 : decode cX10_kind 6 = .ok (.invokestatic 252, 3) := by decide +kernel
theorem dX10_kind_9 : decode cX10_kind 9 = .ok (.ifCond .ne 9, 3) := by decide +kernel
theorem dX10_kind_12 : decode cX10_kind 12 = .ok (.aload_n 0, 1) := by decide +kernel
theorem dX10_kind_13 : decode cX10_kind 13 = .ok (.iconst 1, 1) := by decide +kernel
theorem dX10_kind_14 : decode cX10_kind 14 = .ok (.invokevirtual 289, 3) := by decide +kernel
theorem dX10_kind_17 : decode cX10_kind 17 = .ok (.ireturn, 1) := by decide +kernel
theorem dX10_kind_18 : decode cX10_kind 18 = .ok (.aload_n 0, 1) := by decide +kernel
theorem dX10_kind_19 : decode cX10_kind 19 = .ok (.iload_n 1, 1) := by decide +kernel
theorem dX10_kind_20 : decode cX10_kind 20 = .ok (.invokevirtual 321, 3) := by decide +kernel
theorem dX10_kind_23 : decode cX10_kind 23 = .ok (.ifCond .eq 16, 3) := by decide +kernel
theorem dX10_kind_26 : decode cX10_kind 26 = .ok (.aload_n 0, 1) := by decide +kernel
theorem dX10_kind_27 : decode cX10_kind 27 = .ok (.iload_n 1, 1) := by decide +kernel
theorem dX10_kind_28 : decode cX10_kind 28 = .ok (.iconst 2, 1) := by decide +kernel
theorem dX10_kind_29 : decode cX10_kind 29 = .ok (.invokestatic 52, 3) := by decide +kernel
theorem dX10_kind_32 : decode cX10_kind 32 = .ok (.iload_n 2, 1) := by decide +kernel
theorem dX10_kind_33 : decode cX10_kind 33 = .ok (.invokevirtual 343, 3) := by decide +kernel
theorem dX10_kind_36 : decode cX10_kind 36 = .ok (.goto 8, 3) := by decide +kernel
theorem dX10_kind_39 : decode cX10_kind 39 = .ok (.aload_n 0, 1) := by decide +kernel
theorem dX10_kind_40 : decode cX10_kind 40 = .ok (.iconst 2, 1) := by decide +kernel
theorem dX10_kind_41 : decode cX10_kind 41 = .ok (.invokevirtual 289, 3) := by decide +kernel
theorem dX10_kind_44 : decode cX10_kind 44 = .ok (.ireturn, 1) := by decide +kernel
theorem dX10_detour_0 : decode cX10_detour 0 = .ok (.iload_n 2, 1) := by decide +kernel
theorem dX10_detour_1 : decode cX10_detour 1 = .ok (.ifCond .ge 9, 3) := by decide +kernel
theorem dX10_detour_4 : decode cX10_detour 4 = .ok (.aload_n 0, 1) := by decide +kernel
theorem dX10_detour_5 : decode cX10_detour 5 = .ok (.iconst 1, 1) := by decide +kernel
theorem dX10_detour_6 : decode cX10_detour 6 = .ok (.invokevirtual 289, 3) := by decide +kernel
theorem dX10_detour_9 : decode cX10_detour 9 = .ok (.ireturn, 1) := by decide +kernel
theorem dX10_detour_10 : decode cX10_detour 10 = .ok (.aload_n 0, 1) := by decide +kernel
theorem dX10_detour_11 : decode cX10_detour 11 = .ok (.iload_n 1, 1) := by decide +kernel
theorem dX10_detour_12 : decode cX10_detour 12 = .ok (.invokevirtual 321, 3) := by decide +kernel
theorem dX10_detour_15 : decode cX10_detour 15 = .ok (.ifCond .eq 11, 3) := by decide +kernel
theorem dX10_detour_18 : decode cX10_detour 18 = .ok (.aload_n 0, 1) := by decide +kernel
theorem dX10_detour_19 : decode cX10_detour 19 = .ok (.iload_n 3, 1) := by decide +kernel
theorem dX10_detour_20 : decode cX10_detour 20 = .ok (.invokevirtual 316, 3) := by decide +kernel
theorem dX10_detour_23 : decode cX10_detour 23 = .ok (.ifCond .ne 9, 3) := by decide +kernel
theorem dX10_detour_26 : decode cX10_detour 26 = .ok (.aload_n 0, 1) := by decide +kernel
theorem dX10_detour_27 : decode cX10_detour 27 = .ok (.iconst 2, 1) := by decide +kernel
theorem dX10_detour_28 : decode cX10_detour 28 = .ok (.invokevirtual 289, 3) := by decide +kernel
theorem dX10_detour_31 : decode cX10_detour 31 = .ok (.ireturn, 1) := by decide +kernel
theorem dX10_detour_32 : decode cX10_detour 32 = .ok (.aload_n 0, 1) := by decide +kernel
theorem dX10_detour_33 : decode cX10_detour 33 = .ok (.iload_n 1, 1) := by decide +kernel
theorem dX10_detour_34 : decode cX10_detour 34 = .ok (.iload_n 3, 1) := by decide +kernel
theorem dX10_detour_35 : decode cX10_detour 35 = .ok (.invokevirtual 269, 3) := by decide +kernel
theorem dX10_detour_38 : decode cX10_detour 38 = .ok (.ifCond .eq 9, 3) := by decide +kernel
theorem dX10_detour_41 : decode cX10_detour 41 = .ok (.aload_n 0, 1) := by decide +kernel
theorem dX10_detour_42 : decode cX10_detour 42 = .ok (.iconst 4, 1) := by decide +kernel
theorem dX10_detour_43 : decode cX10_detour 43 = .ok (.invokevirtual 289, 3) := by decide +kernel
theorem dX10_detour_46 : decode cX10_detour 46 = .ok (.ireturn, 1) := by decide +kernel
theorem dX10_detour_47 : decode cX10_detour 47 = .ok (.iload_n 2, 1) := by decide +kernel
theorem dX10_detour_48 : decode cX10_detour 48 = .ok (.i2l, 1) := by decide +kernel
theorem dX10_detour_49 : decode cX10_detour 49 = .ok (.aload_n 0, 1) := by decide +kernel
theorem dX10_detour_50 : decode cX10_detour 50 = .ok (.iload_n 1, 1) := by decide +kernel
theorem dX10_detour_51 : decode cX10_detour 51 = .ok (.iconst 0, 1) := by decide +kernel
theorem dX10_detour_52 : decode cX10_detour 52 = .ok (.invokevirtual 62, 3) := by decide +kernel
theorem dX10_detour_55 : decode cX10_detour 55 = .ok (.lcmp, 1) := by decide +kernel
theorem dX10_detour_56 : decode cX10_detour 56 = .ok (.ifCond .ge 19, 3) := by decide +kernel
theorem dX10_detour_59 : decode cX10_detour 59 = .ok (.aload_n 0, 1) := by decide +kernel
theorem dX10_detour_60 : decode cX10_detour 60 = .ok (.iload_n 1, 1) := by decide +kernel
theorem dX10_detour_61 : decode cX10_detour 61 = .ok (.bipush 12, 2) := by decide +kernel
theorem dX10_detour_63 : decode cX10_detour 63 = .ok (.iload_n 2, 1) := by decide +kernel
theorem dX10_detour_64 : decode cX10_detour 64 = .ok (.iadd, 1) := by decide +kernel
theorem dX10_detour_65 : decode cX10_detour 65 = .ok (.invokestatic 52, 3) := by decide +kernel
theorem dX10_detour_68 : decode cX10_detour 68 = .ok (.iload_n 3, 1) := by decide +kernel
theorem dX10_detour_69 : decode cX10_detour 69 = .ok (.invokevirtual 343, 3) := by decide +kernel
theorem dX10_detour_72 : decode cX10_detour 72 = .ok (.goto 8, 3) := by decide +kernel
theorem dX10_detour_75 : decode cX10_detour 75 = .ok (.aload_n 0, 1) := by decide +kernel
theorem dX10_detour_76 : decode cX10_detour 76 = .ok (.iconst 5, 1) := by decide +kernel
theorem dX10_detour_77 : decode cX10_detour 77 = .ok (.invokevirtual 289, 3) := by decide +kernel
theorem dX10_detour_80 : decode cX10_detour 80 = .ok (.ireturn, 1) := by decide +kernel
theorem dX10_tick_0 : decode cX10_tick 0 = .ok (.iload_n 1, 1) := by decide +kernel
theorem dX10_tick_1 : decode cX10_tick 1 = .ok (.i2l, 1) := by decide +kernel
theorem dX10_tick_2 : decode cX10_tick 2 = .ok (.lconst 1, 1) := by decide +kernel
theorem dX10_tick_3 : decode cX10_tick 3 = .ok (.ldc2_w 339, 3) := by decide +kernel
theorem dX10_tick_6 : decode cX10_tick 6 = .ok (.invokestatic 252, 3) := by decide +kernel
theorem dX10_tick_9 : decode cX10_tick 9 = .ok (.ifCond .ne 9, 3) := by decide +kernel
theorem dX10_tick_12 : decode cX10_tick 12 = .ok (.aload_n 0, 1) := by decide +kernel
theorem dX10_tick_13 : decode cX10_tick 13 = .ok (.iconst 1, 1) := by decide +kernel
theorem dX10_tick_14 : decode cX10_tick 14 = .ok (.invokevirtual 289, 3) := by decide +kernel
theorem dX10_tick_17 : decode cX10_tick 17 = .ok (.ireturn, 1) := by decide +kernel
theorem dX10_tick_18 : decode cX10_tick 18 = .ok (.aload_n 0, 1) := by decide +kernel
theorem dX10_tick_19 : decode cX10_tick 19 = .ok (.iload_n 1, 1) := by decide +kernel
theorem dX10_tick_20 : decode cX10_tick 20 = .ok (.invokevirtual 349, 3) := by decide +kernel
theorem dX10_tick_23 : decode cX10_tick 23 = .ok (.aload_n 0, 1) := by decide +kernel
theorem dX10_tick_24 : decode cX10_tick 24 = .ok (.aload_n 0, 1) := by decide +kernel
theorem dX10_tick_25 : decode cX10_tick 25 = .ok (.iconst 2, 1) := by decide +kernel
theorem dX10_tick_26 : decode cX10_tick 26 = .ok (.invokevirtual 48, 3) := by decide +kernel
theorem dX10_tick_29 : decode cX10_tick 29 = .ok (.invokevirtual 298, 3) := by decide +kernel
theorem dX10_tick_32 : decode cX10_tick 32 = .ok (.ireturn, 1) := by decide +kernel
theorem dX10_mark_0 : decode cX10_mark 0 = .ok (.aload_n 0, 1) := by decide +kernel
theorem dX10_mark_1 : decode cX10_mark 1 = .ok (.getfield 302, 3) := by decide +kernel
theorem dX10_mark_4 : decode cX10_mark 4 = .ok (.iconst 3, 1) := by decide +kernel
theorem dX10_mark_5 : decode cX10_mark 5 = .ok (.if_icmp .ne 9, 3) := by decide +kernel
theorem dX10_mark_8 : decode cX10_mark 8 = .ok (.aload_n 0, 1) := by decide +kernel
theorem dX10_mark_9 : decode cX10_mark 9 = .ok (.iconst 3, 1) := by decide +kernel
theorem dX10_mark_10 : decode cX10_mark 10 = .ok (.invokevirtual 289, 3) := by decide +kernel
theorem dX10_mark_13 : decode cX10_mark 13 = .ok (.ireturn, 1) := by decide +kernel
theorem dX10_mark_14 : decode cX10_mark 14 = .ok (.aload_n 0, 1) := by decide +kernel
theorem dX10_mark_15 : decode cX10_mark 15 = .ok (.iconst 0, 1) := by decide +kernel
theorem dX10_mark_16 : decode cX10_mark 16 = .ok (.sipush 11608, 3) := by decide +kernel
theorem dX10_mark_19 : decode cX10_mark 19 = .ok (.sipush 5804, 3) := by decide +kernel
theorem dX10_mark_22 : decode cX10_mark 22 = .ok (.aload_n 0, 1) := by decide +kernel
theorem dX10_mark_23 : decode cX10_mark 23 = .ok (.getfield 302, 3) := by decide +kernel
theorem dX10_mark_26 : decode cX10_mark 26 = .ok (.imul, 1) := by decide +kernel
theorem dX10_mark_27 : decode cX10_mark 27 = .ok (.iadd, 1) := by decide +kernel
theorem dX10_mark_28 : decode cX10_mark 28 = .ok (.invokevirtual 292, 3) := by decide +kernel
theorem dX10_mark_31 : decode cX10_mark 31 = .ok (.aload_n 0, 1) := by decide +kernel
theorem dX10_mark_32 : decode cX10_mark 32 = .ok (.dup, 1) := by decide +kernel
theorem dX10_mark_33 : decode cX10_mark 33 = .ok (.getfield 302, 3) := by decide +kernel
theorem dX10_mark_36 : decode cX10_mark 36 = .ok (.iconst 1, 1) := by decide +kernel
theorem dX10_mark_37 : decode cX10_mark 37 = .ok (.iadd, 1) := by decide +kernel
theorem dX10_mark_38 : decode cX10_mark 38 = .ok (.putfield 302, 3) := by decide +kernel
theorem dX10_mark_41 : decode cX10_mark 41 = .ok (.aload_n 0, 1) := by decide +kernel
theorem dX10_mark_42 : decode cX10_mark 42 = .ok (.aload_n 0, 1) := by decide +kernel
theorem dX10_mark_43 : decode cX10_mark 43 = .ok (.getfield 302, 3) := by decide +kernel
theorem dX10_mark_46 : decode cX10_mark 46 = .ok (.i2l, 1) := by decide +kernel
theorem dX10_mark_47 : decode cX10_mark 47 = .ok (.invokevirtual 298, 3) := by decide +kernel
theorem dX10_mark_50 : decode cX10_mark 50 = .ok (.ireturn, 1) := by decide +kernel
theorem dX10_back_0 : decode cX10_back 0 = .ok (.aload_n 0, 1) := by decide +kernel
theorem dX10_back_1 : decode cX10_back 1 = .ok (.getfield 302, 3) := by decide +kernel
theorem dX10_back_4 : decode cX10_back 4 = .ok (.ifCond .ne 9, 3) := by decide +kernel
theorem dX10_back_7 : decode cX10_back 7 = .ok (.aload_n 0, 1) := by decide +kernel
theorem dX10_back_8 : decode cX10_back 8 = .ok (.iconst 5, 1) := by decide +kernel
theorem dX10_back_9 : decode cX10_back 9 = .ok (.invokevirtual 289, 3) := by decide +kernel
theorem dX10_back_12 : decode cX10_back 12 = .ok (.ireturn, 1) := by decide +kernel
theorem dX10_back_13 : decode cX10_back 13 = .ok (.aload_n 0, 1) := by decide +kernel
theorem dX10_back_14 : decode cX10_back 14 = .ok (.dup, 1) := by decide +kernel
theorem dX10_back_15 : decode cX10_back 15 = .ok (.getfield 302, 3) := by decide +kernel
theorem dX10_back_18 : decode cX10_back 18 = .ok (.iconst 1, 1) := by decide +kernel
theorem dX10_back_19 : decode cX10_back 19 = .ok (.isub, 1) := by decide +kernel
theorem dX10_back_20 : decode cX10_back 20 = .ok (.putfield 302, 3) := by decide +kernel
theorem dX10_back_23 : decode cX10_back 23 = .ok (.aload_n 0, 1) := by decide +kernel
theorem dX10_back_24 : decode cX10_back 24 = .ok (.sipush 11608, 3) := by decide +kernel
theorem dX10_back_27 : decode cX10_back 27 = .ok (.sipush 5804, 3) := by decide +kernel
theorem dX10_back_30 : decode cX10_back 30 = .ok (.aload_n 0, 1) := by decide +kernel
theorem dX10_back_31 : decode cX10_back 31 = .ok (.getfield 302, 3) := by decide +kernel
theorem dX10_back_34 : decode cX10_back 34 = .ok (.imul, 1) := by decide +kernel
theorem dX10_back_35 : decode cX10_back 35 = .ok (.iadd, 1) := by decide +kernel
theorem dX10_back_36 : decode cX10_back 36 = .ok (.iconst 0, 1) := by decide +kernel
theorem dX10_back_37 : decode cX10_back 37 = .ok (.invokevirtual 292, 3) := by decide +kernel
theorem dX10_back_40 : decode cX10_back 40 = .ok (.aload_n 0, 1) := by decide +kernel
theorem dX10_back_41 : decode cX10_back 41 = .ok (.aload_n 0, 1) := by decide +kernel
theorem dX10_back_42 : decode cX10_back 42 = .ok (.getfield 302, 3) := by decide +kernel
theorem dX10_back_45 : decode cX10_back 45 = .ok (.i2l, 1) := by decide +kernel
theorem dX10_back_46 : decode cX10_back 46 = .ok (.invokevirtual 298, 3) := by decide +kernel
theorem dX10_back_49 : decode cX10_back 49 = .ok (.ireturn, 1) := by decide +kernel
theorem dX10_growing_0 : decode cX10_growing 0 = .ok (.iconst 0, 1) := by decide +kernel
theorem dX10_growing_1 : decode cX10_growing 1 = .ok (.istore_n 2, 1) := by decide +kernel
theorem dX10_growing_2 : decode cX10_growing 2 = .ok (.iconst 0, 1) := by decide +kernel
theorem dX10_growing_3 : decode cX10_growing 3 = .ok (.istore_n 3, 1) := by decide +kernel
theorem dX10_growing_4 : decode cX10_growing 4 = .ok (.iload_n 3, 1) := by decide +kernel
theorem dX10_growing_5 : decode cX10_growing 5 = .ok (.i2l, 1) := by decide +kernel
theorem dX10_growing_6 : decode cX10_growing 6 = .ok (.aload_n 0, 1) := by decide +kernel
theorem dX10_growing_7 : decode cX10_growing 7 = .ok (.iconst 1, 1) := by decide +kernel
theorem dX10_growing_8 : decode cX10_growing 8 = .ok (.invokevirtual 48, 3) := by decide +kernel
theorem dX10_growing_11 : decode cX10_growing 11 = .ok (.lcmp, 1) := by decide +kernel
theorem dX10_growing_12 : decode cX10_growing 12 = .ok (.ifCond .ge 44, 3) := by decide +kernel
theorem dX10_growing_15 : decode cX10_growing 15 = .ok (.iload_n 2, 1) := by decide +kernel
theorem dX10_growing_16 : decode cX10_growing 16 = .ok (.aload_n 0, 1) := by decide +kernel
theorem dX10_growing_17 : decode cX10_growing 17 = .ok (.iload_n 3, 1) := by decide +kernel
theorem dX10_growing_18 : decode cX10_growing 18 = .ok (.invokevirtual 181, 3) := by decide +kernel
theorem dX10_growing_21 : decode cX10_growing 21 = .ok (.ifCond .eq 26, 3) := by decide +kernel
theorem dX10_growing_24 : decode cX10_growing 24 = .ok (.aload_n 0, 1) := by decide +kernel
theorem dX10_growing_25 : decode cX10_growing 25 = .ok (.getfield 30, 3) := by decide +kernel
theorem dX10_growing_28 : decode cX10_growing 28 = .ok (.iload_n 3, 1) := by decide +kernel
theorem dX10_growing_29 : decode cX10_growing 29 = .ok (.iaload, 1) := by decide +kernel
theorem dX10_growing_30 : decode cX10_growing 30 = .ok (.iconst (-1), 1) := by decide +kernel
theorem dX10_growing_31 : decode cX10_growing 31 = .ok (.if_icmp .ne 16, 3) := by decide +kernel
theorem dX10_growing_34 : decode cX10_growing 34 = .ok (.aload_n 0, 1) := by decide +kernel
theorem dX10_growing_35 : decode cX10_growing 35 = .ok (.iload_n 3, 1) := by decide +kernel
theorem dX10_growing_36 : decode cX10_growing 36 = .ok (.iload_n 1, 1) := by decide +kernel
theorem dX10_growing_37 : decode cX10_growing 37 = .ok (.invokevirtual 269, 3) := by decide +kernel
theorem dX10_growing_40 : decode cX10_growing 40 = .ok (.ifCond .eq 7, 3) := by decide +kernel
theorem dX10_growing_43 : decode cX10_growing 43 = .ok (.iconst 1, 1) := by decide +kernel
theorem dX10_growing_44 : decode cX10_growing 44 = .ok (.goto 4, 3) := by decide +kernel
theorem dX10_growing_47 : decode cX10_growing 47 = .ok (.iconst 0, 1) := by decide +kernel
theorem dX10_growing_48 : decode cX10_growing 48 = .ok (.iadd, 1) := by decide +kernel
theorem dX10_growing_49 : decode cX10_growing 49 = .ok (.istore_n 2, 1) := by decide +kernel
theorem dX10_growing_50 : decode cX10_growing 50 = .ok (.iinc 3 1, 3) := by decide +kernel
theorem dX10_growing_53 : decode cX10_growing 53 = .ok (.goto (-49), 3) := by decide +kernel
theorem dX10_growing_56 : decode cX10_growing 56 = .ok (.iload_n 2, 1) := by decide +kernel
theorem dX10_growing_57 : decode cX10_growing 57 = .ok (.ireturn, 1) := by decide +kernel
theorem dX10_rest_0 : decode cX10_rest 0 = .ok (.ldc2_w 144, 3) := by decide +kernel
theorem dX10_rest_3 : decode cX10_rest 3 = .ok (.aload_n 0, 1) := by decide +kernel
theorem dX10_rest_4 : decode cX10_rest 4 = .ok (.iload_n 1, 1) := by decide +kernel
theorem dX10_rest_5 : decode cX10_rest 5 = .ok (.iconst 0, 1) := by decide +kernel
theorem dX10_rest_6 : decode cX10_rest 6 = .ok (.invokevirtual 69, 3) := by decide +kernel
theorem dX10_rest_9 : decode cX10_rest 9 = .ok (.lmul, 1) := by decide +kernel
theorem dX10_rest_10 : decode cX10_rest 10 = .ok (.lstore_n 2, 1) := by decide +kernel
theorem dX10_rest_11 : decode cX10_rest 11 = .ok (.iconst 0, 1) := by decide +kernel
theorem dX10_rest_12 : decode cX10_rest 12 = .ok (.istore 4, 2) := by decide +kernel
theorem dX10_rest_14 : decode cX10_rest 14 = .ok (.iload 4, 2) := by decide +kernel
theorem dX10_rest_16 : decode cX10_rest 16 = .ok (.i2l, 1) := by decide +kernel
theorem dX10_rest_17 : decode cX10_rest 17 = .ok (.aload_n 0, 1) := by decide +kernel
theorem dX10_rest_18 : decode cX10_rest 18 = .ok (.iconst 1, 1) := by decide +kernel
theorem dX10_rest_19 : decode cX10_rest 19 = .ok (.invokevirtual 48, 3) := by decide +kernel
theorem dX10_rest_22 : decode cX10_rest 22 = .ok (.lcmp, 1) := by decide +kernel
theorem dX10_rest_23 : decode cX10_rest 23 = .ok (.ifCond .ge 33, 3) := by decide +kernel
theorem dX10_rest_26 : decode cX10_rest 26 = .ok (.lload_n 2, 1) := by decide +kernel
theorem dX10_rest_27 : decode cX10_rest 27 = .ok (.aload_n 0, 1) := by decide +kernel
theorem dX10_rest_28 : decode cX10_rest 28 = .ok (.iload 4, 2) := by decide +kernel
theorem dX10_rest_30 : decode cX10_rest 30 = .ok (.iload_n 1, 1) := by decide +kernel
theorem dX10_rest_31 : decode cX10_rest 31 = .ok (.invokevirtual 269, 3) := by decide +kernel
theorem dX10_rest_34 : decode cX10_rest 34 = .ok (.ifCond .eq 13, 3) := by decide +kernel
theorem dX10_rest_37 : decode cX10_rest 37 = .ok (.aload_n 0, 1) := by decide +kernel
theorem dX10_rest_38 : decode cX10_rest 38 = .ok (.getfield 27, 3) := by decide +kernel
theorem dX10_rest_41 : decode cX10_rest 41 = .ok (.iload 4, 2) := by decide +kernel
theorem dX10_rest_43 : decode cX10_rest 43 = .ok (.laload, 1) := by decide +kernel
theorem dX10_rest_44 : decode cX10_rest 44 = .ok (.goto 4, 3) := by decide +kernel
theorem dX10_rest_47 : decode cX10_rest 47 = .ok (.lconst 0, 1) := by decide +kernel
theorem dX10_rest_48 : decode cX10_rest 48 = .ok (.lsub, 1) := by decide +kernel
theorem dX10_rest_49 : decode cX10_rest 49 = .ok (.lstore_n 2, 1) := by decide +kernel
theorem dX10_rest_50 : decode cX10_rest 50 = .ok (.iinc 4 1, 3) := by decide +kernel
theorem dX10_rest_53 : decode cX10_rest 53 = .ok (.goto (-39), 3) := by decide +kernel
theorem dX10_rest_56 : decode cX10_rest 56 = .ok (.lload_n 2, 1) := by decide +kernel
theorem dX10_rest_57 : decode cX10_rest 57 = .ok (.lreturn, 1) := by decide +kernel
theorem dX10_laysBest_0 : decode cX10_laysBest 0 = .ok (.iconst 0, 1) := by decide +kernel
theorem dX10_laysBest_1 : decode cX10_laysBest 1 = .ok (.istore_n 1, 1) := by decide +kernel
theorem dX10_laysBest_2 : decode cX10_laysBest 2 = .ok (.iload_n 1, 1) := by decide +kernel
theorem dX10_laysBest_3 : decode cX10_laysBest 3 = .ok (.bipush 6, 2) := by decide +kernel
theorem dX10_laysBest_5 : decode cX10_laysBest 5 = .ok (.if_icmp .ge 23, 3) := by decide +kernel
theorem dX10_laysBest_8 : decode cX10_laysBest 8 = .ok (.aload_n 0, 1) := by decide +kernel
theorem dX10_laysBest_9 : decode cX10_laysBest 9 = .ok (.getfield 27, 3) := by decide +kernel
theorem dX10_laysBest_12 : decode cX10_laysBest 12 = .ok (.iload_n 1, 1) := by decide +kernel
theorem dX10_laysBest_13 : decode cX10_laysBest 13 = .ok (.lconst 0, 1) := by decide +kernel
theorem dX10_laysBest_14 : decode cX10_laysBest 14 = .ok (.lastore, 1) := by decide +kernel
theorem dX10_laysBest_15 : decode cX10_laysBest 15 = .ok (.aload_n 0, 1) := by decide +kernel
theorem dX10_laysBest_16 : decode cX10_laysBest 16 = .ok (.getfield 30, 3) := by decide +kernel
theorem dX10_laysBest_19 : decode cX10_laysBest 19 = .ok (.iload_n 1, 1) := by decide +kernel
theorem dX10_laysBest_20 : decode cX10_laysBest 20 = .ok (.iconst (-1), 1) := by decide +kernel
theorem dX10_laysBest_21 : decode cX10_laysBest 21 = .ok (.iastore, 1) := by decide +kernel
theorem dX10_laysBest_22 : decode cX10_laysBest 22 = .ok (.iinc 1 1, 3) := by decide +kernel
theorem dX10_laysBest_25 : decode cX10_laysBest 25 = .ok (.goto (-23), 3) := by decide +kernel
theorem dX10_laysBest_28 : decode cX10_laysBest 28 = .ok (.iconst 0, 1) := by decide +kernel
theorem dX10_laysBest_29 : decode cX10_laysBest 29 = .ok (.istore_n 1, 1) := by decide +kernel
theorem dX10_laysBest_30 : decode cX10_laysBest 30 = .ok (.iload_n 1, 1) := by decide +kernel
theorem dX10_laysBest_31 : decode cX10_laysBest 31 = .ok (.iconst (-1), 1) := by decide +kernel
theorem dX10_laysBest_32 : decode cX10_laysBest 32 = .ok (.if_icmp .eq 159, 3) := by decide +kernel
theorem dX10_laysBest_35 : decode cX10_laysBest 35 = .ok (.iconst (-1), 1) := by decide +kernel
theorem dX10_laysBest_36 : decode cX10_laysBest 36 = .ok (.istore_n 1, 1) := by decide +kernel
theorem dX10_laysBest_37 : decode cX10_laysBest 37 = .ok (.iconst 0, 1) := by decide +kernel
theorem dX10_laysBest_38 : decode cX10_laysBest 38 = .ok (.istore_n 2, 1) := by decide +kernel
theorem dX10_laysBest_39 : decode cX10_laysBest 39 = .ok (.iload_n 2, 1) := by decide +kernel
theorem dX10_laysBest_40 : decode cX10_laysBest 40 = .ok (.i2l, 1) := by decide +kernel
theorem dX10_laysBest_41 : decode cX10_laysBest 41 = .ok (.aload_n 0, 1) := by decide +kernel
theorem dX10_laysBest_42 : decode cX10_laysBest 42 = .ok (.iconst 0, 1) := by decide +kernel
theorem dX10_laysBest_43 : decode cX10_laysBest 43 = .ok (.invokevirtual 48, 3) := by decide +kernel
theorem dX10_laysBest_46 : decode cX10_laysBest 46 = .ok (.lcmp, 1) := by decide +kernel
theorem dX10_laysBest_47 : decode cX10_laysBest 47 = .ok (.ifCond .ge 52, 3) := by decide +kernel
theorem dX10_laysBest_50 : decode cX10_laysBest 50 = .ok (.aload_n 0, 1) := by decide +kernel
theorem dX10_laysBest_51 : decode cX10_laysBest 51 = .ok (.iload_n 2, 1) := by decide +kernel
theorem dX10_laysBest_52 : decode cX10_laysBest 52 = .ok (.invokevirtual 351, 3) := by decide +kernel
theorem dX10_laysBest_55 : decode cX10_laysBest 55 = .ok (.ifCond .le 38, 3) := by decide +kernel
theorem dX10_laysBest_58 : decode cX10_laysBest 58 = .ok (.iload_n 1, 1) := by decide +kernel
theorem dX10_laysBest_59 : decode cX10_laysBest 59 = .ok (.iconst (-1), 1) := by decide +kernel
theorem dX10_laysBest_60 : decode cX10_laysBest 60 = .ok (.if_icmp .eq 31, 3) := by decide +kernel
theorem dX10_laysBest_63 : decode cX10_laysBest 63 = .ok (.aload_n 0, 1) := by decide +kernel
theorem dX10_laysBest_64 : decode cX10_laysBest 64 = .ok (.iload_n 2, 1) := by decide +kernel
theorem dX10_laysBest_65 : decode cX10_laysBest 65 = .ok (.invokevirtual 354, 3) := by decide +kernel
theorem dX10_laysBest_68 : decode cX10_laysBest 68 = .ok (.aload_n 0, 1) := by decide +kernel
theorem dX10_laysBest_69 : decode cX10_laysBest 69 = .ok (.iload_n 2, 1) := by decide +kernel
theorem dX10_laysBest_70 : decode cX10_laysBest 70 = .ok (.invokevirtual 351, 3) := by decide +kernel
theorem dX10_laysBest_73 : decode cX10_laysBest 73 = .ok (.i2l, 1) := by decide +kernel
theorem dX10_laysBest_74 : decode cX10_laysBest 74 = .ok (.ldiv, 1) := by decide +kernel
theorem dX10_laysBest_75 : decode cX10_laysBest 75 = .ok (.aload_n 0, 1) := by decide +kernel
theorem dX10_laysBest_76 : decode cX10_laysBest 76 = .ok (.iload_n 1, 1) := by decide +kernel
theorem dX10_laysBest_77 : decode cX10_laysBest 77 = .ok (.invokevirtual 354, 3) := by decide +kernel
theorem dX10_laysBest_80 : decode cX10_laysBest 80 = .ok (.aload_n 0, 1) := by decide +kernel
theorem dX10_laysBest_81 : decode cX10_laysBest 81 = .ok (.iload_n 1, 1) := by decide +kernel
theorem dX10_laysBest_82 : decode cX10_laysBest 82 = .ok (.invokevirtual 351, 3) := by decide +kernel
theorem dX10_laysBest_85 : decode cX10_laysBest 85 = .ok (.i2l, 1) := by decide +kernel
theorem dX10_laysBest_86 : decode cX10_laysBest 86 = .ok (.ldiv, 1) := by decide +kernel
theorem dX10_laysBest_87 : decode cX10_laysBest 87 = .ok (.lcmp, 1) := by decide +kernel
theorem dX10_laysBest_88 : decode cX10_laysBest 88 = .ok (.ifCond .ge 5, 3) := by decide +kernel
theorem dX10_laysBest_91 : decode cX10_laysBest 91 = .ok (.iload_n 2, 1) := by decide +kernel
theorem dX10_laysBest_92 : decode cX10_laysBest 92 = .ok (.istore_n 1, 1) := by decide +kernel
theorem dX10_laysBest_93 : decode cX10_laysBest 93 = .ok (.iinc 2 1, 3) := by decide +kernel
theorem dX10_laysBest_96 : decode cX10_laysBest 96 = .ok (.goto (-57), 3) := by decide +kernel
theorem dX10_laysBest_99 : decode cX10_laysBest 99 = .ok (.iload_n 1, 1) := by decide +kernel
theorem dX10_laysBest_100 : decode cX10_laysBest 100 = .ok (.iconst (-1), 1) := by decide +kernel
theorem dX10_laysBest_101 : decode cX10_laysBest 101 = .ok (.if_icmp .ne 4, 3) := by decide +kernel
theorem dX10_laysBest_104 : decode cX10_laysBest 104 = .ok (.return_, 1) := by decide +kernel
theorem dX10_laysBest_105 : decode cX10_laysBest 105 = .ok (.aload_n 0, 1) := by decide +kernel
theorem dX10_laysBest_106 : decode cX10_laysBest 106 = .ok (.iload_n 1, 1) := by decide +kernel
theorem dX10_laysBest_107 : decode cX10_laysBest 107 = .ok (.invokevirtual 354, 3) := by decide +kernel
theorem dX10_laysBest_110 : decode cX10_laysBest 110 = .ok (.aload_n 0, 1) := by decide +kernel
theorem dX10_laysBest_111 : decode cX10_laysBest 111 = .ok (.iload_n 1, 1) := by decide +kernel
theorem dX10_laysBest_112 : decode cX10_laysBest 112 = .ok (.invokevirtual 351, 3) := by decide +kernel
theorem dX10_laysBest_115 : decode cX10_laysBest 115 = .ok (.i2l, 1) := by decide +kernel
theorem dX10_laysBest_116 : decode cX10_laysBest 116 = .ok (.ldiv, 1) := by decide +kernel
theorem dX10_laysBest_117 : decode cX10_laysBest 117 = .ok (.lstore_n 2, 1) := by decide +kernel
theorem dX10_laysBest_118 : decode cX10_laysBest 118 = .ok (.iconst 0, 1) := by decide +kernel
theorem dX10_laysBest_119 : decode cX10_laysBest 119 = .ok (.istore 4, 2) := by decide +kernel
theorem dX10_laysBest_121 : decode cX10_laysBest 121 = .ok (.iload 4, 2) := by decide +kernel
theorem dX10_laysBest_123 : decode cX10_laysBest 123 = .ok (.i2l, 1) := by decide +kernel
theorem dX10_laysBest_124 : decode cX10_laysBest 124 = .ok (.aload_n 0, 1) := by decide +kernel
theorem dX10_laysBest_125 : decode cX10_laysBest 125 = .ok (.iconst 1, 1) := by decide +kernel
theorem dX10_laysBest_126 : decode cX10_laysBest 126 = .ok (.invokevirtual 48, 3) := by decide +kernel
theorem dX10_laysBest_129 : decode cX10_laysBest 129 = .ok (.lcmp, 1) := by decide +kernel
theorem dX10_laysBest_130 : decode cX10_laysBest 130 = .ok (.ifCond .ge 58, 3) := by decide +kernel
theorem dX10_laysBest_133 : decode cX10_laysBest 133 = .ok (.aload_n 0, 1) := by decide +kernel
theorem dX10_laysBest_134 : decode cX10_laysBest 134 = .ok (.iload 4, 2) := by decide +kernel
theorem dX10_laysBest_136 : decode cX10_laysBest 136 = .ok (.invokevirtual 181, 3) := by decide +kernel
theorem dX10_laysBest_139 : decode cX10_laysBest 139 = .ok (.ifCond .eq 43, 3) := by decide +kernel
theorem dX10_laysBest_142 : decode cX10_laysBest 142 = .ok (.aload_n 0, 1) := by decide +kernel
theorem dX10_laysBest_143 : decode cX10_laysBest 143 = .ok (.getfield 30, 3) := by decide +kernel
theorem dX10_laysBest_146 : decode cX10_laysBest 146 = .ok (.iload 4, 2) := by decide +kernel
theorem dX10_laysBest_148 : decode cX10_laysBest 148 = .ok (.iaload, 1) := by decide +kernel
theorem dX10_laysBest_149 : decode cX10_laysBest 149 = .ok (.iconst (-1), 1) := by decide +kernel
theorem dX10_laysBest_150 : decode cX10_laysBest 150 = .ok (.if_icmp .ne 32, 3) := by decide +kernel
theorem dX10_laysBest_153 : decode cX10_laysBest 153 = .ok (.aload_n 0, 1) := by decide +kernel
theorem dX10_laysBest_154 : decode cX10_laysBest 154 = .ok (.iload 4, 2) := by decide +kernel
theorem dX10_laysBest_156 : decode cX10_laysBest 156 = .ok (.iload_n 1, 1) := by decide +kernel
theorem dX10_laysBest_157 : decode cX10_laysBest 157 = .ok (.invokevirtual 269, 3) := by decide +kernel
theorem dX10_laysBest_160 : decode cX10_laysBest 160 = .ok (.ifCond .ne 6, 3) := by decide +kernel
theorem dX10_laysBest_163 : decode cX10_laysBest 163 = .ok (.goto 19, 3) := by decide +kernel
theorem dX10_laysBest_166 : decode cX10_laysBest 166 = .ok (.aload_n 0, 1) := by decide +kernel
theorem dX10_laysBest_167 : decode cX10_laysBest 167 = .ok (.getfield 30, 3) := by decide +kernel
theorem dX10_laysBest_170 : decode cX10_laysBest 170 = .ok (.iload 4, 2) := by decide +kernel
theorem dX10_laysBest_172 : decode cX10_laysBest 172 = .ok (.iload_n 1, 1) := by decide +kernel
theorem dX10_laysBest_173 : decode cX10_laysBest 173 = .ok (.iastore, 1) := by decide +kernel
theorem dX10_laysBest_174 : decode cX10_laysBest 174 = .ok (.aload_n 0, 1) := by decide +kernel
theorem dX10_laysBest_175 : decode cX10_laysBest 175 = .ok (.getfield 27, 3) := by decide +kernel
theorem dX10_laysBest_178 : decode cX10_laysBest 178 = .ok (.iload 4, 2) := by decide +kernel
theorem dX10_laysBest_180 : decode cX10_laysBest 180 = .ok (.lload_n 2, 1) := by decide +kernel
theorem dX10_laysBest_181 : decode cX10_laysBest 181 = .ok (.lastore, 1) := by decide +kernel
theorem dX10_laysBest_182 : decode cX10_laysBest 182 = .ok (.iinc 4 1, 3) := by decide +kernel
theorem dX10_laysBest_185 : decode cX10_laysBest 185 = .ok (.goto (-64), 3) := by decide +kernel
theorem dX10_laysBest_188 : decode cX10_laysBest 188 = .ok (.goto (-158), 3) := by decide +kernel
theorem dX10_laysBest_191 : decode cX10_laysBest 191 = .ok (.return_, 1) := by decide +kernel
theorem dX10_best_0 : decode cX10_best 0 = .ok (.aload_n 0, 1) := by decide +kernel
theorem dX10_best_1 : decode cX10_best 1 = .ok (.iload_n 1, 1) := by decide +kernel
theorem dX10_best_2 : decode cX10_best 2 = .ok (.invokevirtual 321, 3) := by decide +kernel
theorem dX10_best_5 : decode cX10_best 5 = .ok (.ifCond .ne 9, 3) := by decide +kernel
theorem dX10_best_8 : decode cX10_best 8 = .ok (.aload_n 0, 1) := by decide +kernel
theorem dX10_best_9 : decode cX10_best 9 = .ok (.iconst 2, 1) := by decide +kernel
theorem dX10_best_10 : decode cX10_best 10 = .ok (.invokevirtual 289, 3) := by decide +kernel
theorem dX10_best_13 : decode cX10_best 13 = .ok (.ireturn, 1) := by decide +kernel
theorem dX10_best_14 : decode cX10_best 14 = .ok (.aload_n 0, 1) := by decide +kernel
theorem dX10_best_15 : decode cX10_best 15 = .ok (.invokevirtual 357, 3) := by decide +kernel
theorem dX10_best_18 : decode cX10_best 18 = .ok (.aload_n 0, 1) := by decide +kernel
theorem dX10_best_19 : decode cX10_best 19 = .ok (.aload_n 0, 1) := by decide +kernel
theorem dX10_best_20 : decode cX10_best 20 = .ok (.getfield 27, 3) := by decide +kernel
theorem dX10_best_23 : decode cX10_best 23 = .ok (.iload_n 1, 1) := by decide +kernel
theorem dX10_best_24 : decode cX10_best 24 = .ok (.laload, 1) := by decide +kernel
theorem dX10_best_25 : decode cX10_best 25 = .ok (.invokevirtual 298, 3) := by decide +kernel
theorem dX10_best_28 : decode cX10_best 28 = .ok (.ireturn, 1) := by decide +kernel
theorem dX10_neck_0 : decode cX10_neck 0 = .ok (.aload_n 0, 1) := by decide +kernel
