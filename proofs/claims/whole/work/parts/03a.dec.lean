theorem dX0_init_0 : decode cX0_init 0 = .ok (.aload_n 0, 1) := by decide +kernel
theorem dX0_init_1 : decode cX0_init 1 = .ok (.invokespecial 3, 3) := by decide +kernel
theorem dX0_init_4 : decode cX0_init 4 = .ok (.aload_n 0, 1) := by decide +kernel
theorem dX0_init_5 : decode cX0_init 5 = .ok (.bipush 6, 2) := by decide +kernel
theorem dX0_init_7 : decode cX0_init 7 = .ok (.newarray .int, 2) := by decide +kernel
theorem dX0_init_9 : decode cX0_init 9 = .ok (.putfield 9, 3) := by decide +kernel
theorem dX0_init_12 : decode cX0_init 12 = .ok (.aload_n 0, 1) := by decide +kernel
theorem dX0_init_13 : decode cX0_init 13 = .ok (.bipush 6, 2) := by decide +kernel
theorem dX0_init_15 : decode cX0_init 15 = .ok (.newarray .int, 2) := by decide +kernel
theorem dX0_init_17 : decode cX0_init 17 = .ok (.putfield 15, 3) := by decide +kernel
theorem dX0_init_20 : decode cX0_init 20 = .ok (.aload_n 0, 1) := by decide +kernel
theorem dX0_init_21 : decode cX0_init 21 = .ok (.bipush 6, 2) := by decide +kernel
theorem dX0_init_23 : decode cX0_init 23 = .ok (.newarray .boolean, 2) := by decide +kernel
theorem dX0_init_25 : decode cX0_init 25 = .ok (.putfield 18, 3) := by decide +kernel
theorem dX0_init_28 : decode cX0_init 28 = .ok (.return_, 1) := by decide +kernel
theorem dX0_rateOf_0 : decode cX0_rateOf 0 = .ok (.iload_n 1, 1) := by decide +kernel
theorem dX0_rateOf_1 : decode cX0_rateOf 1 = .ok (.ifCond .lt 21, 3) := by decide +kernel
theorem dX0_rateOf_4 : decode cX0_rateOf 4 = .ok (.iload_n 1, 1) := by decide +kernel
theorem dX0_rateOf_5 : decode cX0_rateOf 5 = .ok (.aload_n 0, 1) := by decide +kernel
theorem dX0_rateOf_6 : decode cX0_rateOf 6 = .ok (.getfield 9, 3) := by decide +kernel
theorem dX0_rateOf_9 : decode cX0_rateOf 9 = .ok (.arraylength, 1) := by decide +kernel
theorem dX0_rateOf_10 : decode cX0_rateOf 10 = .ok (.if_icmp .ge 12, 3) := by decide +kernel
theorem dX0_rateOf_13 : decode cX0_rateOf 13 = .ok (.aload_n 0, 1) := by decide +kernel
theorem dX0_rateOf_14 : decode cX0_rateOf 14 = .ok (.getfield 9, 3) := by decide +kernel
theorem dX0_rateOf_17 : decode cX0_rateOf 17 = .ok (.iload_n 1, 1) := by decide +kernel
theorem dX0_rateOf_18 : decode cX0_rateOf 18 = .ok (.iaload, 1) := by decide +kernel
theorem dX0_rateOf_19 : decode cX0_rateOf 19 = .ok (.goto 4, 3) := by decide +kernel
theorem dX0_rateOf_22 : decode cX0_rateOf 22 = .ok (.iconst 0, 1) := by decide +kernel
theorem dX0_rateOf_23 : decode cX0_rateOf 23 = .ok (.ireturn, 1) := by decide +kernel
theorem dX0_neckOf_0 : decode cX0_neckOf 0 = .ok (.iload_n 1, 1) := by decide +kernel
theorem dX0_neckOf_1 : decode cX0_neckOf 1 = .ok (.ifCond .lt 21, 3) := by decide +kernel
theorem dX0_neckOf_4 : decode cX0_neckOf 4 = .ok (.iload_n 1, 1) := by decide +kernel
theorem dX0_neckOf_5 : decode cX0_neckOf 5 = .ok (.aload_n 0, 1) := by decide +kernel
theorem dX0_neckOf_6 : decode cX0_neckOf 6 = .ok (.getfield 15, 3) := by decide +kernel
theorem dX0_neckOf_9 : decode cX0_neckOf 9 = .ok (.arraylength, 1) := by decide +kernel
theorem dX0_neckOf_10 : decode cX0_neckOf 10 = .ok (.if_icmp .ge 12, 3) := by decide +kernel
theorem dX0_neckOf_13 : decode cX0_neckOf 13 = .ok (.aload_n 0, 1) := by decide +kernel
theorem dX0_neckOf_14 : decode cX0_neckOf 14 = .ok (.getfield 15, 3) := by decide +kernel
theorem dX0_neckOf_17 : decode cX0_neckOf 17 = .ok (.iload_n 1, 1) := by decide +kernel
theorem dX0_neckOf_18 : decode cX0_neckOf 18 = .ok (.iaload, 1) := by decide +kernel
theorem dX0_neckOf_19 : decode cX0_neckOf 19 = .ok (.goto 4, 3) := by decide +kernel
theorem dX0_neckOf_22 : decode cX0_neckOf 22 = .ok (.iconst (-1), 1) := by decide +kernel
theorem dX0_neckOf_23 : decode cX0_neckOf 23 = .ok (.ireturn, 1) := by decide +kernel
theorem dX0_workOut_0 : decode cX0_workOut 0 = .ok (.iconst 0, 1) := by decide +kernel
theorem dX0_workOut_1 : decode cX0_workOut 1 = .ok (.istore_n 2, 1) := by decide +kernel
theorem dX0_workOut_2 : decode cX0_workOut 2 = .ok (.iload_n 2, 1) := by decide +kernel
theorem dX0_workOut_3 : decode cX0_workOut 3 = .ok (.bipush 6, 2) := by decide +kernel
theorem dX0_workOut_5 : decode cX0_workOut 5 = .ok (.if_icmp .ge 51, 3) := by decide +kernel
theorem dX0_workOut_8 : decode cX0_workOut 8 = .ok (.aload_n 1, 1) := by decide +kernel
theorem dX0_workOut_9 : decode cX0_workOut 9 = .ok (.iload_n 2, 1) := by decide +kernel
theorem dX0_workOut_10 : decode cX0_workOut 10 = .ok (.invokevirtual 22, 3) := by decide +kernel
theorem dX0_workOut_13 : decode cX0_workOut 13 = .ok (.astore_n 3, 1) := by decide +kernel
theorem dX0_workOut_14 : decode cX0_workOut 14 = .ok (.aload_n 0, 1) := by decide +kernel
theorem dX0_workOut_15 : decode cX0_workOut 15 = .ok (.getfield 9, 3) := by decide +kernel
theorem dX0_workOut_18 : decode cX0_workOut 18 = .ok (.iload_n 2, 1) := by decide +kernel
theorem dX0_workOut_19 : decode cX0_workOut 19 = .ok (.iconst 0, 1) := by decide +kernel
theorem dX0_workOut_20 : decode cX0_workOut 20 = .ok (.iastore, 1) := by decide +kernel
theorem dX0_workOut_21 : decode cX0_workOut 21 = .ok (.aload_n 0, 1) := by decide +kernel
theorem dX0_workOut_22 : decode cX0_workOut 22 = .ok (.getfield 15, 3) := by decide +kernel
theorem dX0_workOut_25 : decode cX0_workOut 25 = .ok (.iload_n 2, 1) := by decide +kernel
theorem dX0_workOut_26 : decode cX0_workOut 26 = .ok (.iconst (-1), 1) := by decide +kernel
theorem dX0_workOut_27 : decode cX0_workOut 27 = .ok (.iastore, 1) := by decide +kernel
theorem dX0_workOut_28 : decode cX0_workOut 28 = .ok (.aload_n 0, 1) := by decide +kernel
theorem dX0_workOut_29 : decode cX0_workOut 29 = .ok (.getfield 18, 3) := by decide +kernel
theorem dX0_workOut_32 : decode cX0_workOut 32 = .ok (.iload_n 2, 1) := by decide +kernel
theorem dX0_workOut_33 : decode cX0_workOut 33 = .ok (.aload_n 3, 1) := by decide +kernel
theorem dX0_workOut_34 : decode cX0_workOut 34 = .ok (.ifnull 14, 3) := by decide +kernel
theorem dX0_workOut_37 : decode cX0_workOut 37 = .ok (.aload_n 3, 1) := by decide +kernel
theorem dX0_workOut_38 : decode cX0_workOut 38 = .ok (.getfield 28, 3) := by decide +kernel
theorem dX0_workOut_41 : decode cX0_workOut 41 = .ok (.ifCond .eq 7, 3) := by decide +kernel
theorem dX0_workOut_44 : decode cX0_workOut 44 = .ok (.iconst 1, 1) := by decide +kernel
theorem dX0_workOut_45 : decode cX0_workOut 45 = .ok (.goto 4, 3) := by decide +kernel
theorem dX0_workOut_48 : decode cX0_workOut 48 = .ok (.iconst 0, 1) := by decide +kernel
theorem dX0_workOut_49 : decode cX0_workOut 49 = .ok (.bastore, 1) := by decide +kernel
theorem dX0_workOut_50 : decode cX0_workOut 50 = .ok (.iinc 2 1, 3) := by decide +kernel
theorem dX0_workOut_53 : decode cX0_workOut 53 = .ok (.goto (-51), 3) := by decide +kernel
theorem dX0_workOut_56 : decode cX0_workOut 56 = .ok (.iconst 0, 1) := by decide +kernel
theorem dX0_workOut_57 : decode cX0_workOut 57 = .ok (.istore_n 2, 1) := by decide +kernel
theorem dX0_workOut_58 : decode cX0_workOut 58 = .ok (.iload_n 2, 1) := by decide +kernel
theorem dX0_workOut_59 : decode cX0_workOut 59 = .ok (.bipush 6, 2) := by decide +kernel
theorem dX0_workOut_61 : decode cX0_workOut 61 = .ok (.if_icmp .ge 14, 3) := by decide +kernel
theorem dX0_workOut_64 : decode cX0_workOut 64 = .ok (.aload_n 0, 1) := by decide +kernel
theorem dX0_workOut_65 : decode cX0_workOut 65 = .ok (.aload_n 1, 1) := by decide +kernel
theorem dX0_workOut_66 : decode cX0_workOut 66 = .ok (.invokevirtual 34, 3) := by decide +kernel
theorem dX0_workOut_69 : decode cX0_workOut 69 = .ok (.iinc 2 1, 3) := by decide +kernel
theorem dX0_workOut_72 : decode cX0_workOut 72 = .ok (.goto (-14), 3) := by decide +kernel
theorem dX0_workOut_75 : decode cX0_workOut 75 = .ok (.return_, 1) := by decide +kernel
theorem dX0_stopAtTightest_0 : decode cX0_stopAtTightest 0 = .ok (.iconst (-1), 1) := by decide +kernel
theorem dX0_stopAtTightest_1 : decode cX0_stopAtTightest 1 = .ok (.istore_n 2, 1) := by decide +kernel
theorem dX0_stopAtTightest_2 : decode cX0_stopAtTightest 2 = .ok (.iconst 0, 1) := by decide +kernel
theorem dX0_stopAtTightest_3 : decode cX0_stopAtTightest 3 = .ok (.istore_n 3, 1) := by decide +kernel
theorem dX0_stopAtTightest_4 : decode cX0_stopAtTightest 4 = .ok (.iconst 0, 1) := by decide +kernel
theorem dX0_stopAtTightest_5 : decode cX0_stopAtTightest 5 = .ok (.istore 4, 2) := by decide +kernel
theorem dX0_stopAtTightest_7 : decode cX0_stopAtTightest 7 = .ok (.iload 4, 2) := by decide +kernel
theorem dX0_stopAtTightest_9 : decode cX0_stopAtTightest 9 = .ok (.aload_n 1, 1) := by decide +kernel
theorem dX0_stopAtTightest_10 : decode cX0_stopAtTightest 10 = .ok (.getfield 38, 3) := by decide +kernel
theorem dX0_stopAtTightest_13 : decode cX0_stopAtTightest 13 = .ok (.if_icmp .ge 41, 3) := by decide +kernel
theorem dX0_stopAtTightest_16 : decode cX0_stopAtTightest 16 = .ok (.aload_n 0, 1) := by decide +kernel
theorem dX0_stopAtTightest_17 : decode cX0_stopAtTightest 17 = .ok (.aload_n 1, 1) := by decide +kernel
theorem dX0_stopAtTightest_18 : decode cX0_stopAtTightest 18 = .ok (.iload 4, 2) := by decide +kernel
theorem dX0_stopAtTightest_20 : decode cX0_stopAtTightest 20 = .ok (.invokevirtual 42, 3) := by decide +kernel
theorem dX0_stopAtTightest_23 : decode cX0_stopAtTightest 23 = .ok (.istore 5, 2) := by decide +kernel
theorem dX0_stopAtTightest_25 : decode cX0_stopAtTightest 25 = .ok (.iload 5, 2) := by decide +kernel
theorem dX0_stopAtTightest_27 : decode cX0_stopAtTightest 27 = .ok (.iconst (-1), 1) := by decide +kernel
theorem dX0_stopAtTightest_28 : decode cX0_stopAtTightest 28 = .ok (.if_icmp .eq 20, 3) := by decide +kernel
theorem dX0_stopAtTightest_31 : decode cX0_stopAtTightest 31 = .ok (.iload_n 2, 1) := by decide +kernel
theorem dX0_stopAtTightest_32 : decode cX0_stopAtTightest 32 = .ok (.iconst (-1), 1) := by decide +kernel
theorem dX0_stopAtTightest_33 : decode cX0_stopAtTightest 33 = .ok (.if_icmp .eq 9, 3) := by decide +kernel
theorem dX0_stopAtTightest_36 : decode cX0_stopAtTightest 36 = .ok (.iload 5, 2) := by decide +kernel
theorem dX0_stopAtTightest_38 : decode cX0_stopAtTightest 38 = .ok (.iload_n 3, 1) := by decide +kernel
theorem dX0_stopAtTightest_39 : decode cX0_stopAtTightest 39 = .ok (.if_icmp .ge 9, 3) := by decide +kernel
theorem dX0_stopAtTightest_42 : decode cX0_stopAtTightest 42 = .ok (.iload 4, 2) := by decide +kernel
theorem dX0_stopAtTightest_44 : decode cX0_stopAtTightest 44 = .ok (.istore_n 2, 1) := by decide +kernel
theorem dX0_stopAtTightest_45 : decode cX0_stopAtTightest 45 = .ok (.iload 5, 2) := by decide +kernel
theorem dX0_stopAtTightest_47 : decode cX0_stopAtTightest 47 = .ok (.istore_n 3, 1) := by decide +kernel
theorem dX0_stopAtTightest_48 : decode cX0_stopAtTightest 48 = .ok (.iinc 4 1, 3) := by decide +kernel
theorem dX0_stopAtTightest_51 : decode cX0_stopAtTightest 51 = .ok (.goto (-44), 3) := by decide +kernel
theorem dX0_stopAtTightest_54 : decode cX0_stopAtTightest 54 = .ok (.iconst 0, 1) := by decide +kernel
theorem dX0_stopAtTightest_55 : decode cX0_stopAtTightest 55 = .ok (.istore 4, 2) := by decide +kernel
theorem dX0_stopAtTightest_57 : decode cX0_stopAtTightest 57 = .ok (.iload 4, 2) := by decide +kernel
theorem dX0_stopAtTightest_59 : decode cX0_stopAtTightest 59 = .ok (.bipush 6, 2) := by decide +kernel
theorem dX0_stopAtTightest_61 : decode cX0_stopAtTightest 61 = .ok (.if_icmp .ge 59, 3) := by decide +kernel
theorem dX0_stopAtTightest_64 : decode cX0_stopAtTightest 64 = .ok (.iload_n 2, 1) := by decide +kernel
theorem dX0_stopAtTightest_65 : decode cX0_stopAtTightest 65 = .ok (.iconst (-1), 1) := by decide +kernel
theorem dX0_stopAtTightest_66 : decode cX0_stopAtTightest 66 = .ok (.if_icmp .eq 54, 3) := by decide +kernel
theorem dX0_stopAtTightest_69 : decode cX0_stopAtTightest 69 = .ok (.aload_n 0, 1) := by decide +kernel
theorem dX0_stopAtTightest_70 : decode cX0_stopAtTightest 70 = .ok (.getfield 18, 3) := by decide +kernel
theorem dX0_stopAtTightest_73 : decode cX0_stopAtTightest 73 = .ok (.iload 4, 2) := by decide +kernel
theorem dX0_stopAtTightest_75 : decode cX0_stopAtTightest 75 = .ok (.baload, 1) := by decide +kernel
theorem dX0_stopAtTightest_76 : decode cX0_stopAtTightest 76 = .ok (.ifCond .eq 38, 3) := by decide +kernel
theorem dX0_stopAtTightest_79 : decode cX0_stopAtTightest 79 = .ok (.aload_n 0, 1) := by decide +kernel
theorem dX0_stopAtTightest_80 : decode cX0_stopAtTightest 80 = .ok (.aload_n 1, 1) := by decide +kernel
theorem dX0_stopAtTightest_81 : decode cX0_stopAtTightest 81 = .ok (.iload 4, 2) := by decide +kernel
theorem dX0_stopAtTightest_83 : decode cX0_stopAtTightest 83 = .ok (.iload_n 2, 1) := by decide +kernel
theorem dX0_stopAtTightest_84 : decode cX0_stopAtTightest 84 = .ok (.invokevirtual 46, 3) := by decide +kernel
theorem dX0_stopAtTightest_87 : decode cX0_stopAtTightest 87 = .ok (.ifCond .eq 27, 3) := by decide +kernel
theorem dX0_stopAtTightest_90 : decode cX0_stopAtTightest 90 = .ok (.aload_n 0, 1) := by decide +kernel
theorem dX0_stopAtTightest_91 : decode cX0_stopAtTightest 91 = .ok (.getfield 9, 3) := by decide +kernel
theorem dX0_stopAtTightest_94 : decode cX0_stopAtTightest 94 = .ok (.iload 4, 2) := by decide +kernel
theorem dX0_stopAtTightest_96 : decode cX0_stopAtTightest 96 = .ok (.iload_n 3, 1) := by decide +kernel
theorem dX0_stopAtTightest_97 : decode cX0_stopAtTightest 97 = .ok (.iastore, 1) := by decide +kernel
theorem dX0_stopAtTightest_98 : decode cX0_stopAtTightest 98 = .ok (.aload_n 0, 1) := by decide +kernel
theorem dX0_stopAtTightest_99 : decode cX0_stopAtTightest 99 = .ok (.getfield 15, 3) := by decide +kernel
theorem dX0_stopAtTightest_102 : decode cX0_stopAtTightest 102 = .ok (.iload 4, 2) := by decide +kernel
theorem dX0_stopAtTightest_104 : decode cX0_stopAtTightest 104 = .ok (.iload_n 2, 1) := by decide +kernel
theorem dX0_stopAtTightest_105 : decode cX0_stopAtTightest 105 = .ok (.iastore, 1) := by decide +kernel
theorem dX0_stopAtTightest_106 : decode cX0_stopAtTightest 106 = .ok (.aload_n 0, 1) := by decide +kernel
theorem dX0_stopAtTightest_107 : decode cX0_stopAtTightest 107 = .ok (.getfield 18, 3) := by decide +kernel
theorem dX0_stopAtTightest_110 : decode cX0_stopAtTightest 110 = .ok (.iload 4, 2) := by decide +kernel
theorem dX0_stopAtTightest_112 : decode cX0_stopAtTightest 112 = .ok (.iconst 0, 1) := by decide +kernel
theorem dX0_stopAtTightest_113 : decode cX0_stopAtTightest 113 = .ok (.bastore, 1) := by decide +kernel
theorem dX0_stopAtTightest_114 : decode cX0_stopAtTightest 114 = .ok (.iinc 4 1, 3) := by decide +kernel
theorem dX0_stopAtTightest_117 : decode cX0_stopAtTightest 117 = .ok (.goto (-60), 3) := by decide +kernel
theorem dX0_stopAtTightest_120 : decode cX0_stopAtTightest 120 = .ok (.return_, 1) := by decide +kernel
theorem dX0_roomForEach_0 : decode cX0_roomForEach 0 = .ok (.aload_n 1, 1) := by decide +kernel
theorem dX0_roomForEach_1 : decode cX0_roomForEach 1 = .ok (.iload_n 2, 1) := by decide +kernel
theorem dX0_roomForEach_2 : decode cX0_roomForEach 2 = .ok (.invokevirtual 50, 3) := by decide +kernel
theorem dX0_roomForEach_5 : decode cX0_roomForEach 5 = .ok (.astore_n 3, 1) := by decide +kernel
theorem dX0_roomForEach_6 : decode cX0_roomForEach 6 = .ok (.aload_n 3, 1) := by decide +kernel
theorem dX0_roomForEach_7 : decode cX0_roomForEach 7 = .ok (.ifnonnull 5, 3) := by decide +kernel
theorem dX0_roomForEach_10 : decode cX0_roomForEach 10 = .ok (.iconst (-1), 1) := by decide +kernel
theorem dX0_roomForEach_11 : decode cX0_roomForEach 11 = .ok (.ireturn, 1) := by decide +kernel
theorem dX0_roomForEach_12 : decode cX0_roomForEach 12 = .ok (.sipush 1000, 3) := by decide +kernel
theorem dX0_roomForEach_15 : decode cX0_roomForEach 15 = .ok (.aload_n 3, 1) := by decide +kernel
theorem dX0_roomForEach_16 : decode cX0_roomForEach 16 = .ok (.getfield 54, 3) := by decide +kernel
theorem dX0_roomForEach_19 : decode cX0_roomForEach 19 = .ok (.imul, 1) := by decide +kernel
theorem dX0_roomForEach_20 : decode cX0_roomForEach 20 = .ok (.istore 4, 2) := by decide +kernel
theorem dX0_roomForEach_22 : decode cX0_roomForEach 22 = .ok (.iconst 0, 1) := by decide +kernel
theorem dX0_roomForEach_23 : decode cX0_roomForEach 23 = .ok (.istore 5, 2) := by decide +kernel
theorem dX0_roomForEach_25 : decode cX0_roomForEach 25 = .ok (.iconst 0, 1) := by decide +kernel
theorem dX0_roomForEach_26 : decode cX0_roomForEach 26 = .ok (.istore 6, 2) := by decide +kernel
theorem dX0_roomForEach_28 : decode cX0_roomForEach 28 = .ok (.iload 6, 2) := by decide +kernel
theorem dX0_roomForEach_30 : decode cX0_roomForEach 30 = .ok (.bipush 6, 2) := by decide +kernel
theorem dX0_roomForEach_32 : decode cX0_roomForEach 32 = .ok (.if_icmp .ge 52, 3) := by decide +kernel
theorem dX0_roomForEach_35 : decode cX0_roomForEach 35 = .ok (.aload_n 0, 1) := by decide +kernel
theorem dX0_roomForEach_36 : decode cX0_roomForEach 36 = .ok (.aload_n 1, 1) := by decide +kernel
theorem dX0_roomForEach_37 : decode cX0_roomForEach 37 = .ok (.iload 6, 2) := by decide +kernel
theorem dX0_roomForEach_39 : decode cX0_roomForEach 39 = .ok (.iload_n 2, 1) := by decide +kernel
theorem dX0_roomForEach_40 : decode cX0_roomForEach 40 = .ok (.invokevirtual 46, 3) := by decide +kernel
theorem dX0_roomForEach_43 : decode cX0_roomForEach 43 = .ok (.ifCond .eq 35, 3) := by decide +kernel
theorem dX0_roomForEach_46 : decode cX0_roomForEach 46 = .ok (.iload 4, 2) := by decide +kernel
theorem dX0_roomForEach_48 : decode cX0_roomForEach 48 = .ok (.aload_n 0, 1) := by decide +kernel
theorem dX0_roomForEach_49 : decode cX0_roomForEach 49 = .ok (.getfield 9, 3) := by decide +kernel
theorem dX0_roomForEach_52 : decode cX0_roomForEach 52 = .ok (.iload 6, 2) := by decide +kernel
theorem dX0_roomForEach_54 : decode cX0_roomForEach 54 = .ok (.iaload, 1) := by decide +kernel
theorem dX0_roomForEach_55 : decode cX0_roomForEach 55 = .ok (.isub, 1) := by decide +kernel
theorem dX0_roomForEach_56 : decode cX0_roomForEach 56 = .ok (.istore 4, 2) := by decide +kernel
theorem dX0_roomForEach_58 : decode cX0_roomForEach 58 = .ok (.iload 5, 2) := by decide +kernel
theorem dX0_roomForEach_60 : decode cX0_roomForEach 60 = .ok (.aload_n 0, 1) := by decide +kernel
theorem dX0_roomForEach_61 : decode cX0_roomForEach 61 = .ok (.getfield 18, 3) := by decide +kernel
theorem dX0_roomForEach_64 : decode cX0_roomForEach 64 = .ok (.iload 6, 2) := by decide +kernel
theorem dX0_roomForEach_66 : decode cX0_roomForEach 66 = .ok (.baload, 1) := by decide +kernel
theorem dX0_roomForEach_67 : decode cX0_roomForEach 67 = .ok (.ifCond .eq 7, 3) := by decide +kernel
theorem dX0_roomForEach_70 : decode cX0_roomForEach 70 = .ok (.iconst 1, 1) := by decide +kernel
theorem dX0_roomForEach_71 : decode cX0_roomForEach 71 = .ok (.goto 4, 3) := by decide +kernel
theorem dX0_roomForEach_74 : decode cX0_roomForEach 74 = .ok (.iconst 0, 1) := by decide +kernel
theorem dX0_roomForEach_75 : decode cX0_roomForEach 75 = .ok (.iadd, 1) := by decide +kernel
theorem dX0_roomForEach_76 : decode cX0_roomForEach 76 = .ok (.istore 5, 2) := by decide +kernel
theorem dX0_roomForEach_78 : decode cX0_roomForEach 78 = .ok (.iinc 6 1, 3) := by decide +kernel
theorem dX0_roomForEach_81 : decode cX0_roomForEach 81 = .ok (.goto (-53), 3) := by decide +kernel
theorem dX0_roomForEach_84 : decode cX0_roomForEach 84 = .ok (.iload 5, 2) := by decide +kernel
theorem dX0_roomForEach_86 : decode cX0_roomForEach 86 = .ok (.ifCond .le 11, 3) := by decide +kernel
theorem dX0_roomForEach_89 : decode cX0_roomForEach 89 = .ok (.iload 4, 2) := by decide +kernel
theorem dX0_roomForEach_91 : decode cX0_roomForEach 91 = .ok (.iload 5, 2) := by decide +kernel
theorem dX0_roomForEach_93 : decode cX0_roomForEach 93 = .ok (.idiv, 1) := by decide +kernel
theorem dX0_roomForEach_94 : decode cX0_roomForEach 94 = .ok (.goto 4, 3) := by decide +kernel
theorem dX0_roomForEach_97 : decode cX0_roomForEach 97 = .ok (.iconst (-1), 1) := by decide +kernel
theorem dX0_roomForEach_98 : decode cX0_roomForEach 98 = .ok (.ireturn, 1) := by decide +kernel
theorem dX0_crosses_0 : decode cX0_crosses 0 = .ok (.aload_n 1, 1) := by decide +kernel
theorem dX0_crosses_1 : decode cX0_crosses 1 = .ok (.iload_n 2, 1) := by decide +kernel
theorem dX0_crosses_2 : decode cX0_crosses 2 = .ok (.invokevirtual 22, 3) := by decide +kernel
theorem dX0_crosses_5 : decode cX0_crosses 5 = .ok (.astore 4, 2) := by decide +kernel
theorem dX0_crosses_7 : decode cX0_crosses 7 = .ok (.aload 4, 2) := by decide +kernel
theorem dX0_crosses_9 : decode cX0_crosses 9 = .ok (.ifnull 16, 3) := by decide +kernel
theorem dX0_crosses_12 : decode cX0_crosses 12 = .ok (.aload 4, 2) := by decide +kernel
theorem dX0_crosses_14 : decode cX0_crosses 14 = .ok (.iload_n 3, 1) := by decide +kernel
theorem dX0_crosses_15 : decode cX0_crosses 15 = .ok (.invokevirtual 59, 3) := by decide +kernel
theorem dX0_crosses_18 : decode cX0_crosses 18 = .ok (.ifCond .eq 7, 3) := by decide +kernel
theorem dX0_crosses_21 : decode cX0_crosses 21 = .ok (.iconst 1, 1) := by decide +kernel
theorem dX0_crosses_22 : decode cX0_crosses 22 = .ok (.goto 4, 3) := by decide +kernel
theorem dX0_crosses_25 : decode cX0_crosses 25 = .ok (.iconst 0, 1) := by decide +kernel
theorem dX0_crosses_26 : decode cX0_crosses 26 = .ok (.ireturn, 1) := by decide +kernel
theorem dX1_init_0 : decode cX1_init 0 = .ok (.aload_n 0, 1) := by decide +kernel
theorem dX1_init_1 : decode cX1_init 1 = .ok (.invokespecial 3, 3) := by decide +kernel
theorem dX1_init_4 : decode cX1_init 4 = .ok (.aload_n 0, 1) := by decide +kernel
theorem dX1_init_5 : decode cX1_init 5 = .ok (.bipush 24, 2) := by decide +kernel
theorem dX1_init_7 : decode cX1_init 7 = .ok (.newarray .int, 2) := by decide +kernel
theorem dX1_init_9 : decode cX1_init 9 = .ok (.putfield 9, 3) := by decide +kernel
theorem dX1_init_12 : decode cX1_init 12 = .ok (.aload_n 0, 1) := by decide +kernel
theorem dX1_init_13 : decode cX1_init 13 = .ok (.bipush 24, 2) := by decide +kernel
theorem dX1_init_15 : decode cX1_init 15 = .ok (.newarray .int, 2) := by decide +kernel
theorem dX1_init_17 : decode cX1_init 17 = .ok (.putfield 15, 3) := by decide +kernel
theorem dX1_init_20 : decode cX1_init 20 = .ok (.aload_n 0, 1) := by decide +kernel
theorem dX1_init_21 : decode cX1_init 21 = .ok (.bipush 24, 2) := by decide +kernel
theorem dX1_init_23 : decode cX1_init 23 = .ok (.newarray .int, 2) := by decide +kernel
theorem dX1_init_25 : decode cX1_init 25 = .ok (.putfield 18, 3) := by decide +kernel
theorem dX1_init_28 : decode cX1_init 28 = .ok (.aload_n 0, 1) := by decide +kernel
theorem dX1_init_29 : decode cX1_init 29 = .ok (.bipush 24, 2) := by decide +kernel
theorem dX1_init_31 : decode cX1_init 31 = .ok (.newarray .int, 2) := by decide +kernel
theorem dX1_init_33 : decode cX1_init 33 = .ok (.putfield 21, 3) := by decide +kernel
theorem dX1_init_36 : decode cX1_init 36 = .ok (.return_, 1) := by decide +kernel
theorem dX1_clear_0 : decode cX1_clear 0 = .ok (.aload_n 0, 1) := by decide +kernel
theorem dX1_clear_1 : decode cX1_clear 1 = .ok (.iconst 0, 1) := by decide +kernel
theorem dX1_clear_2 : decode cX1_clear 2 = .ok (.putfield 24, 3) := by decide +kernel
theorem dX1_clear_5 : decode cX1_clear 5 = .ok (.aload_n 0, 1) := by decide +kernel
theorem dX1_clear_6 : decode cX1_clear 6 = .ok (.iconst 0, 1) := by decide +kernel
theorem dX1_clear_7 : decode cX1_clear 7 = .ok (.putfield 28, 3) := by decide +kernel
theorem dX1_clear_10 : decode cX1_clear 10 = .ok (.return_, 1) := by decide +kernel
theorem dX1_copyFrom_0 : decode cX1_copyFrom 0 = .ok (.aload_n 1, 1) := by decide +kernel
theorem dX1_copyFrom_1 : decode cX1_copyFrom 1 = .ok (.getfield 9, 3) := by decide +kernel
theorem dX1_copyFrom_4 : decode cX1_copyFrom 4 = .ok (.iconst 0, 1) := by decide +kernel
theorem dX1_copyFrom_5 : decode cX1_copyFrom 5 = .ok (.aload_n 0, 1) := by decide +kernel
theorem dX1_copyFrom_6 : decode cX1_copyFrom 6 = .ok (.getfield 9, 3) := by decide +kernel
theorem dX1_copyFrom_9 : decode cX1_copyFrom 9 = .ok (.iconst 0, 1) := by decide +kernel
theorem dX1_copyFrom_10 : decode cX1_copyFrom 10 = .ok (.bipush 24, 2) := by decide +kernel
theorem dX1_copyFrom_12 : decode cX1_copyFrom 12 = .ok (.invokestatic 31, 3) := by decide +kernel
theorem dX1_copyFrom_15 : decode cX1_copyFrom 15 = .ok (.aload_n 1, 1) := by decide +kernel
theorem dX1_copyFrom_16 : decode cX1_copyFrom 16 = .ok (.getfield 15, 3) := by decide +kernel
theorem dX1_copyFrom_19 : decode cX1_copyFrom 19 = .ok (.iconst 0, 1) := by decide +kernel
theorem dX1_copyFrom_20 : decode cX1_copyFrom 20 = .ok (.aload_n 0, 1) := by decide +kernel
theorem dX1_copyFrom_21 : decode cX1_copyFrom 21 = .ok (.getfield 15, 3) := by decide +kernel
theorem dX1_copyFrom_24 : decode cX1_copyFrom 24 = .ok (.iconst 0, 1) := by decide +kernel
theorem dX1_copyFrom_25 : decode cX1_copyFrom 25 = .ok (.bipush 24, 2) := by decide +kernel
theorem dX1_copyFrom_27 : decode cX1_copyFrom 27 = .ok (.invokestatic 31, 3) := by decide +kernel
theorem dX1_copyFrom_30 : decode cX1_copyFrom 30 = .ok (.aload_n 1, 1) := by decide +kernel
theorem dX1_copyFrom_31 : decode cX1_copyFrom 31 = .ok (.getfield 18, 3) := by decide +kernel
theorem dX1_copyFrom_34 : decode cX1_copyFrom 34 = .ok (.iconst 0, 1) := by decide +kernel
theorem dX1_copyFrom_35 : decode cX1_copyFrom 35 = .ok (.aload_n 0, 1) := by decide +kernel
theorem dX1_copyFrom_36 : decode cX1_copyFrom 36 = .ok (.getfield 18, 3) := by decide +kernel
theorem dX1_copyFrom_39 : decode cX1_copyFrom 39 = .ok (.iconst 0, 1) := by decide +kernel
theorem dX1_copyFrom_40 : decode cX1_copyFrom 40 = .ok (.bipush 24, 2) := by decide +kernel
theorem dX1_copyFrom_42 : decode cX1_copyFrom 42 = .ok (.invokestatic 31, 3) := by decide +kernel
theorem dX1_copyFrom_45 : decode cX1_copyFrom 45 = .ok (.aload_n 1, 1) := by decide +kernel
theorem dX1_copyFrom_46 : decode cX1_copyFrom 46 = .ok (.getfield 21, 3) := by decide +kernel
theorem dX1_copyFrom_49 : decode cX1_copyFrom 49 = .ok (.iconst 0, 1) := by decide +kernel
theorem dX1_copyFrom_50 : decode cX1_copyFrom 50 = .ok (.aload_n 0, 1) := by decide +kernel
theorem dX1_copyFrom_51 : decode cX1_copyFrom 51 = .ok (.getfield 21, 3) := by decide +kernel
theorem dX1_copyFrom_54 : decode cX1_copyFrom 54 = .ok (.iconst 0, 1) := by decide +kernel
theorem dX1_copyFrom_55 : decode cX1_copyFrom 55 = .ok (.bipush 24, 2) := by decide +kernel
theorem dX1_copyFrom_57 : decode cX1_copyFrom 57 = .ok (.invokestatic 31, 3) := by decide +kernel
theorem dX1_copyFrom_60 : decode cX1_copyFrom 60 = .ok (.aload_n 0, 1) := by decide +kernel
theorem dX1_copyFrom_61 : decode cX1_copyFrom 61 = .ok (.aload_n 1, 1) := by decide +kernel
theorem dX1_copyFrom_62 : decode cX1_copyFrom 62 = .ok (.getfield 24, 3) := by decide +kernel
theorem dX1_copyFrom_65 : decode cX1_copyFrom 65 = .ok (.putfield 24, 3) := by decide +kernel
theorem dX1_copyFrom_68 : decode cX1_copyFrom 68 = .ok (.aload_n 0, 1) := by decide +kernel
theorem dX1_copyFrom_69 : decode cX1_copyFrom 69 = .ok (.aload_n 1, 1) := by decide +kernel
theorem dX1_copyFrom_70 : decode cX1_copyFrom 70 = .ok (.getfield 28, 3) := by decide +kernel
theorem dX1_copyFrom_73 : decode cX1_copyFrom 73 = .ok (.putfield 28, 3) := by decide +kernel
theorem dX1_copyFrom_76 : decode cX1_copyFrom 76 = .ok (.return_, 1) := by decide +kernel
theorem dX1_add_0 : decode cX1_add 0 = .ok (.aload_n 0, 1) := by decide +kernel
theorem dX1_add_1 : decode cX1_add 1 = .ok (.getfield 24, 3) := by decide +kernel
theorem dX1_add_4 : decode cX1_add 4 = .ok (.ifCond .lt 12, 3) := by decide +kernel
theorem dX1_add_7 : decode cX1_add 7 = .ok (.aload_n 0, 1) := by decide +kernel
theorem dX1_add_8 : decode cX1_add 8 = .ok (.getfield 24, 3) := by decide +kernel
theorem dX1_add_11 : decode cX1_add 11 = .ok (.bipush 24, 2) := by decide +kernel
theorem dX1_add_13 : decode cX1_add 13 = .ok (.if_icmp .lt 8, 3) := by decide +kernel
theorem dX1_add_16 : decode cX1_add 16 = .ok (.aload_n 0, 1) := by decide +kernel
theorem dX1_add_17 : decode cX1_add 17 = .ok (.iconst 0, 1) := by decide +kernel
theorem dX1_add_18 : decode cX1_add 18 = .ok (.putfield 24, 3) := by decide +kernel
theorem dX1_add_21 : decode cX1_add 21 = .ok (.aload_n 0, 1) := by decide +kernel
theorem dX1_add_22 : decode cX1_add 22 = .ok (.getfield 9, 3) := by decide +kernel
theorem dX1_add_25 : decode cX1_add 25 = .ok (.aload_n 0, 1) := by decide +kernel
theorem dX1_add_26 : decode cX1_add 26 = .ok (.getfield 24, 3) := by decide +kernel
theorem dX1_add_29 : decode cX1_add 29 = .ok (.iload_n 1, 1) := by decide +kernel
theorem dX1_add_30 : decode cX1_add 30 = .ok (.iastore, 1) := by decide +kernel
theorem dX1_add_31 : decode cX1_add 31 = .ok (.aload_n 0, 1) := by decide +kernel
theorem dX1_add_32 : decode cX1_add 32 = .ok (.getfield 15, 3) := by decide +kernel
theorem dX1_add_35 : decode cX1_add 35 = .ok (.aload_n 0, 1) := by decide +kernel
theorem dX1_add_36 : decode cX1_add 36 = .ok (.getfield 24, 3) := by decide +kernel
theorem dX1_add_39 : decode cX1_add 39 = .ok (.iload_n 2, 1) := by decide +kernel
theorem dX1_add_40 : decode cX1_add 40 = .ok (.iastore, 1) := by decide +kernel
theorem dX1_add_41 : decode cX1_add 41 = .ok (.aload_n 0, 1) := by decide +kernel
theorem dX1_add_42 : decode cX1_add 42 = .ok (.getfield 18, 3) := by decide +kernel
theorem dX1_add_45 : decode cX1_add 45 = .ok (.aload_n 0, 1) := by decide +kernel
theorem dX1_add_46 : decode cX1_add 46 = .ok (.getfield 24, 3) := by decide +kernel
theorem dX1_add_49 : decode cX1_add 49 = .ok (.iload_n 3, 1) := by decide +kernel
theorem dX1_add_50 : decode cX1_add 50 = .ok (.iastore, 1) := by decide +kernel
theorem dX1_add_51 : decode cX1_add 51 = .ok (.aload_n 0, 1) := by decide +kernel
theorem dX1_add_52 : decode cX1_add 52 = .ok (.getfield 21, 3) := by decide +kernel
theorem dX1_add_55 : decode cX1_add 55 = .ok (.aload_n 0, 1) := by decide +kernel
theorem dX1_add_56 : decode cX1_add 56 = .ok (.getfield 24, 3) := by decide +kernel
theorem dX1_add_59 : decode cX1_add 59 = .ok (.iload 4, 2) := by decide +kernel
theorem dX1_add_61 : decode cX1_add 61 = .ok (.iastore, 1) := by decide +kernel
theorem dX1_add_62 : decode cX1_add 62 = .ok (.aload_n 0, 1) := by decide +kernel
theorem dX1_add_63 : decode cX1_add 63 = .ok (.aload_n 0, 1) := by decide +kernel
theorem dX1_add_64 : decode cX1_add 64 = .ok (.getfield 24, 3) := by decide +kernel
theorem dX1_add_67 : decode cX1_add 67 = .ok (.iconst 1, 1) := by decide +kernel
theorem dX1_add_68 : decode cX1_add 68 = .ok (.iadd, 1) := by decide +kernel
theorem dX1_add_69 : decode cX1_add 69 = .ok (.bipush 24, 2) := by decide +kernel
theorem dX1_add_71 : decode cX1_add 71 = .ok (.irem, 1) := by decide +kernel
theorem dX1_add_72 : decode cX1_add 72 = .ok (.putfield 24, 3) := by decide +kernel
theorem dX1_add_75 : decode cX1_add 75 = .ok (.aload_n 0, 1) := by decide +kernel
theorem dX1_add_76 : decode cX1_add 76 = .ok (.aload_n 0, 1) := by decide +kernel
theorem dX1_add_77 : decode cX1_add 77 = .ok (.getfield 28, 3) := by decide +kernel
theorem dX1_add_80 : decode cX1_add 80 = .ok (.iconst 1, 1) := by decide +kernel
theorem dX1_add_81 : decode cX1_add 81 = .ok (.iadd, 1) := by decide +kernel
theorem dX1_add_82 : decode cX1_add 82 = .ok (.bipush 24, 2) := by decide +kernel
theorem dX1_add_84 : decode cX1_add 84 = .ok (.invokestatic 37, 3) := by decide +kernel
theorem dX1_add_87 : decode cX1_add 87 = .ok (.putfield 28, 3) := by decide +kernel
theorem dX1_add_90 : decode cX1_add 90 = .ok (.return_, 1) := by decide +kernel
theorem dX1_tell_0 : decode cX1_tell 0 = .ok (.aload_n 0, 1) := by decide +kernel
theorem dX1_tell_1 : decode cX1_tell 1 = .ok (.getfield 24, 3) := by decide +kernel
theorem dX1_tell_4 : decode cX1_tell 4 = .ok (.iconst 1, 1) := by decide +kernel
theorem dX1_tell_5 : decode cX1_tell 5 = .ok (.isub, 1) := by decide +kernel
theorem dX1_tell_6 : decode cX1_tell 6 = .ok (.iload_n 1, 1) := by decide +kernel
theorem dX1_tell_7 : decode cX1_tell 7 = .ok (.isub, 1) := by decide +kernel
theorem dX1_tell_8 : decode cX1_tell 8 = .ok (.bipush 24, 2) := by decide +kernel
theorem dX1_tell_10 : decode cX1_tell 10 = .ok (.invokestatic 43, 3) := by decide +kernel
theorem dX1_tell_13 : decode cX1_tell 13 = .ok (.istore_n 3, 1) := by decide +kernel
theorem dX1_tell_14 : decode cX1_tell 14 = .ok (.iload_n 2, 1) := by decide +kernel
theorem dX1_tell_15 : decode cX1_tell 15 = .ok (.tableswitch 46 0 2 #[25, 32, 39], 25) := by decide +kernel
theorem dX1_tell_40 : decode cX1_tell 40 = .ok (.aload_n 0, 1) := by decide +kernel
theorem dX1_tell_41 : decode cX1_tell 41 = .ok (.getfield 9, 3) := by decide +kernel
theorem dX1_tell_44 : decode cX1_tell 44 = .ok (.iload_n 3, 1) := by decide +kernel
theorem dX1_tell_45 : decode cX1_tell 45 = .ok (.iaload, 1) := by decide +kernel
theorem dX1_tell_46 : decode cX1_tell 46 = .ok (.ireturn, 1) := by decide +kernel
theorem dX1_tell_47 : decode cX1_tell 47 = .ok (.aload_n 0, 1) := by decide +kernel
theorem dX1_tell_48 : decode cX1_tell 48 = .ok (.getfield 15, 3) := by decide +kernel
theorem dX1_tell_51 : decode cX1_tell 51 = .ok (.iload_n 3, 1) := by decide +kernel
theorem dX1_tell_52 : decode cX1_tell 52 = .ok (.iaload, 1) := by decide +kernel
theorem dX1_tell_53 : decode cX1_tell 53 = .ok (.ireturn, 1) := by decide +kernel
theorem dX1_tell_54 : decode cX1_tell 54 = .ok (.aload_n 0, 1) := by decide +kernel
theorem dX1_tell_55 : decode cX1_tell 55 = .ok (.getfield 18, 3) := by decide +kernel
theorem dX1_tell_58 : decode cX1_tell 58 = .ok (.iload_n 3, 1) := by decide +kernel
theorem dX1_tell_59 : decode cX1_tell 59 = .ok (.iaload, 1) := by decide +kernel
theorem dX1_tell_60 : decode cX1_tell 60 = .ok (.ireturn, 1) := by decide +kernel
theorem dX1_tell_61 : decode cX1_tell 61 = .ok (.aload_n 0, 1) := by decide +kernel
theorem dX1_tell_62 : decode cX1_tell 62 = .ok (.getfield 21, 3) := by decide +kernel
theorem dX1_tell_65 : decode cX1_tell 65 = .ok (.iload_n 3, 1) := by decide +kernel
theorem dX1_tell_66 : decode cX1_tell 66 = .ok (.iaload, 1) := by decide +kernel
theorem dX1_tell_67 : decode cX1_tell 67 = .ok (.ireturn, 1) := by decide +kernel
theorem dX2_init_0 : decode cX2_init 0 = .ok (.aload_n 0, 1) := by decide +kernel
theorem dX2_init_1 : decode cX2_init 1 = .ok (.invokespecial 3, 3) := by decide +kernel
theorem dX2_init_4 : decode cX2_init 4 = .ok (.aload_n 0, 1) := by decide +kernel
theorem dX2_init_5 : decode cX2_init 5 = .ok (.iconst 4, 1) := by decide +kernel
theorem dX2_init_6 : decode cX2_init 6 = .ok (.newarray .int, 2) := by decide +kernel
theorem dX2_init_8 : decode cX2_init 8 = .ok (.putfield 9, 3) := by decide +kernel
theorem dX2_init_11 : decode cX2_init 11 = .ok (.return_, 1) := by decide +kernel
theorem dX2_begin_0 : decode cX2_begin 0 = .ok (.aload_n 0, 1) := by decide +kernel
theorem dX2_begin_1 : decode cX2_begin 1 = .ok (.iconst 0, 1) := by decide +kernel
theorem dX2_begin_2 : decode cX2_begin 2 = .ok (.putfield 15, 3) := by decide +kernel
theorem dX2_begin_5 : decode cX2_begin 5 = .ok (.aload_n 0, 1) := by decide +kernel
theorem dX2_begin_6 : decode cX2_begin 6 = .ok (.sipush 9999, 3) := by decide +kernel
theorem dX2_begin_9 : decode cX2_begin 9 = .ok (.putfield 19, 3) := by decide +kernel
theorem dX2_begin_12 : decode cX2_begin 12 = .ok (.aload_n 0, 1) := by decide +kernel
theorem dX2_begin_13 : decode cX2_begin 13 = .ok (.iconst 0, 1) := by decide +kernel
theorem dX2_begin_14 : decode cX2_begin 14 = .ok (.putfield 22, 3) := by decide +kernel
theorem dX2_begin_17 : decode cX2_begin 17 = .ok (.aload_n 0, 1) := by decide +kernel
theorem dX2_begin_18 : decode cX2_begin 18 = .ok (.iconst 1, 1) := by decide +kernel
theorem dX2_begin_19 : decode cX2_begin 19 = .ok (.putfield 25, 3) := by decide +kernel
theorem dX2_begin_22 : decode cX2_begin 22 = .ok (.aload_n 0, 1) := by decide +kernel
theorem dX2_begin_23 : decode cX2_begin 23 = .ok (.iconst 0, 1) := by decide +kernel
theorem dX2_begin_24 : decode cX2_begin 24 = .ok (.putfield 29, 3) := by decide +kernel
theorem dX2_begin_27 : decode cX2_begin 27 = .ok (.aload_n 0, 1) := by decide +kernel
theorem dX2_begin_28 : decode cX2_begin 28 = .ok (.sipush 200, 3) := by decide +kernel
theorem dX2_begin_31 : decode cX2_begin 31 = .ok (.putfield 32, 3) := by decide +kernel
theorem dX2_begin_34 : decode cX2_begin 34 = .ok (.aload_n 0, 1) := by decide +kernel
theorem dX2_begin_35 : decode cX2_begin 35 = .ok (.iconst 0, 1) := by decide +kernel
theorem dX2_begin_36 : decode cX2_begin 36 = .ok (.putfield 35, 3) := by decide +kernel
theorem dX2_begin_39 : decode cX2_begin 39 = .ok (.aload_n 0, 1) := by decide +kernel
theorem dX2_begin_40 : decode cX2_begin 40 = .ok (.iconst 0, 1) := by decide +kernel
theorem dX2_begin_41 : decode cX2_begin 41 = .ok (.putfield 38, 3) := by decide +kernel
theorem dX2_begin_44 : decode cX2_begin 44 = .ok (.aload_n 0, 1) := by decide +kernel
theorem dX2_begin_45 : decode cX2_begin 45 = .ok (.iconst 0, 1) := by decide +kernel
theorem dX2_begin_46 : decode cX2_begin 46 = .ok (.putfield 41, 3) := by decide +kernel
theorem dX2_begin_49 : decode cX2_begin 49 = .ok (.aload_n 0, 1) := by decide +kernel
theorem dX2_begin_50 : decode cX2_begin 50 = .ok (.iconst 0, 1) := by decide +kernel
theorem dX2_begin_51 : decode cX2_begin 51 = .ok (.putfield 44, 3) := by decide +kernel
theorem dX2_begin_54 : decode cX2_begin 54 = .ok (.aload_n 0, 1) := by decide +kernel
theorem dX2_begin_55 : decode cX2_begin 55 = .ok (.iconst 0, 1) := by decide +kernel
theorem dX2_begin_56 : decode cX2_begin 56 = .ok (.putfield 47, 3) := by decide +kernel
theorem dX2_begin_59 : decode cX2_begin 59 = .ok (.return_, 1) := by decide +kernel
theorem dX2_copyFrom_0 : decode cX2_copyFrom 0 = .ok (.aload_n 1, 1) := by decide +kernel
theorem dX2_copyFrom_1 : decode cX2_copyFrom 1 = .ok (.getfield 9, 3) := by decide +kernel
theorem dX2_copyFrom_4 : decode cX2_copyFrom 4 = .ok (.iconst 0, 1) := by decide +kernel
theorem dX2_copyFrom_5 : decode cX2_copyFrom 5 = .ok (.aload_n 0, 1) := by decide +kernel
theorem dX2_copyFrom_6 : decode cX2_copyFrom 6 = .ok (.getfield 9, 3) := by decide +kernel
theorem dX2_copyFrom_9 : decode cX2_copyFrom 9 = .ok (.iconst 0, 1) := by decide +kernel
theorem dX2_copyFrom_10 : decode cX2_copyFrom 10 = .ok (.iconst 4, 1) := by decide +kernel
theorem dX2_copyFrom_11 : decode cX2_copyFrom 11 = .ok (.invokestatic 50, 3) := by decide +kernel
theorem dX2_copyFrom_14 : decode cX2_copyFrom 14 = .ok (.aload_n 0, 1) := by decide +kernel
theorem dX2_copyFrom_15 : decode cX2_copyFrom 15 = .ok (.aload_n 1, 1) := by decide +kernel
theorem dX2_copyFrom_16 : decode cX2_copyFrom 16 = .ok (.getfield 15, 3) := by decide +kernel
theorem dX2_copyFrom_19 : decode cX2_copyFrom 19 = .ok (.putfield 15, 3) := by decide +kernel
theorem dX2_copyFrom_22 : decode cX2_copyFrom 22 = .ok (.aload_n 0, 1) := by decide +kernel
theorem dX2_copyFrom_23 : decode cX2_copyFrom 23 = .ok (.aload_n 1, 1) := by decide +kernel
theorem dX2_copyFrom_24 : decode cX2_copyFrom 24 = .ok (.getfield 19, 3) := by decide +kernel
theorem dX2_copyFrom_27 : decode cX2_copyFrom 27 = .ok (.putfield 19, 3) := by decide +kernel
theorem dX2_copyFrom_30 : decode cX2_copyFrom 30 = .ok (.aload_n 0, 1) := by decide +kernel
theorem dX2_copyFrom_31 : decode cX2_copyFrom 31 = .ok (.aload_n 1, 1) := by decide +kernel
theorem dX2_copyFrom_32 : decode cX2_copyFrom 32 = .ok (.getfield 22, 3) := by decide +kernel
theorem dX2_copyFrom_35 : decode cX2_copyFrom 35 = .ok (.putfield 22, 3) := by decide +kernel
theorem dX2_copyFrom_38 : decode cX2_copyFrom 38 = .ok (.aload_n 0, 1) := by decide +kernel
theorem dX2_copyFrom_39 : decode cX2_copyFrom 39 = .ok (.aload_n 1, 1) := by decide +kernel
theorem dX2_copyFrom_40 : decode cX2_copyFrom 40 = .ok (.getfield 25, 3) := by decide +kernel
theorem dX2_copyFrom_43 : decode cX2_copyFrom 43 = .ok (.putfield 25, 3) := by decide +kernel
theorem dX2_copyFrom_46 : decode cX2_copyFrom 46 = .ok (.aload_n 0, 1) := by decide +kernel
theorem dX2_copyFrom_47 : decode cX2_copyFrom 47 = .ok (.aload_n 1, 1) := by decide +kernel
theorem dX2_copyFrom_48 : decode cX2_copyFrom 48 = .ok (.getfield 29, 3) := by decide +kernel
theorem dX2_copyFrom_51 : decode cX2_copyFrom 51 = .ok (.putfield 29, 3) := by decide +kernel
theorem dX2_copyFrom_54 : decode cX2_copyFrom 54 = .ok (.aload_n 0, 1) := by decide +kernel
theorem dX2_copyFrom_55 : decode cX2_copyFrom 55 = .ok (.aload_n 1, 1) := by decide +kernel
theorem dX2_copyFrom_56 : decode cX2_copyFrom 56 = .ok (.getfield 32, 3) := by decide +kernel
theorem dX2_copyFrom_59 : decode cX2_copyFrom 59 = .ok (.putfield 32, 3) := by decide +kernel
theorem dX2_copyFrom_62 : decode cX2_copyFrom 62 = .ok (.aload_n 0, 1) := by decide +kernel
theorem dX2_copyFrom_63 : decode cX2_copyFrom 63 = .ok (.aload_n 1, 1) := by decide +kernel
theorem dX2_copyFrom_64 : decode cX2_copyFrom 64 = .ok (.getfield 35, 3) := by decide +kernel
theorem dX2_copyFrom_67 : decode cX2_copyFrom 67 = .ok (.putfield 35, 3) := by decide +kernel
theorem dX2_copyFrom_70 : decode cX2_copyFrom 70 = .ok (.aload_n 0, 1) := by decide +kernel
theorem dX2_copyFrom_71 : decode cX2_copyFrom 71 = .ok (.aload_n 1, 1) := by decide +kernel
theorem dX2_copyFrom_72 : decode cX2_copyFrom 72 = .ok (.getfield 38, 3) := by decide +kernel
theorem dX2_copyFrom_75 : decode cX2_copyFrom 75 = .ok (.putfield 38, 3) := by decide +kernel
theorem dX2_copyFrom_78 : decode cX2_copyFrom 78 = .ok (.aload_n 0, 1) := by decide +kernel
theorem dX2_copyFrom_79 : decode cX2_copyFrom 79 = .ok (.aload_n 1, 1) := by decide +kernel
theorem dX2_copyFrom_80 : decode cX2_copyFrom 80 = .ok (.getfield 41, 3) := by decide +kernel
theorem dX2_copyFrom_83 : decode cX2_copyFrom 83 = .ok (.putfield 41, 3) := by decide +kernel
theorem dX2_copyFrom_86 : decode cX2_copyFrom 86 = .ok (.aload_n 0, 1) := by decide +kernel
theorem dX2_copyFrom_87 : decode cX2_copyFrom 87 = .ok (.aload_n 1, 1) := by decide +kernel
theorem dX2_copyFrom_88 : decode cX2_copyFrom 88 = .ok (.getfield 44, 3) := by decide +kernel
theorem dX2_copyFrom_91 : decode cX2_copyFrom 91 = .ok (.putfield 44, 3) := by decide +kernel
theorem dX2_copyFrom_94 : decode cX2_copyFrom 94 = .ok (.aload_n 0, 1) := by decide +kernel
theorem dX2_copyFrom_95 : decode cX2_copyFrom 95 = .ok (.aload_n 1, 1) := by decide +kernel
theorem dX2_copyFrom_96 : decode cX2_copyFrom 96 = .ok (.getfield 47, 3) := by decide +kernel
theorem dX2_copyFrom_99 : decode cX2_copyFrom 99 = .ok (.putfield 47, 3) := by decide +kernel
theorem dX2_copyFrom_102 : decode cX2_copyFrom 102 = .ok (.return_, 1) := by decide +kernel
theorem dX2_pathAt_0 : decode cX2_pathAt 0 = .ok (.iload_n 1, 1) := by decide +kernel
theorem dX2_pathAt_1 : decode cX2_pathAt 1 = .ok (.ifCond .lt 29, 3) := by decide +kernel
theorem dX2_pathAt_4 : decode cX2_pathAt 4 = .ok (.iload_n 1, 1) := by decide +kernel
theorem dX2_pathAt_5 : decode cX2_pathAt 5 = .ok (.aload_n 0, 1) := by decide +kernel
theorem dX2_pathAt_6 : decode cX2_pathAt 6 = .ok (.getfield 15, 3) := by decide +kernel
theorem dX2_pathAt_9 : decode cX2_pathAt 9 = .ok (.if_icmp .ge 21, 3) := by decide +kernel
theorem dX2_pathAt_12 : decode cX2_pathAt 12 = .ok (.iload_n 1, 1) := by decide +kernel
theorem dX2_pathAt_13 : decode cX2_pathAt 13 = .ok (.aload_n 0, 1) := by decide +kernel
theorem dX2_pathAt_14 : decode cX2_pathAt 14 = .ok (.getfield 9, 3) := by decide +kernel
theorem dX2_pathAt_17 : decode cX2_pathAt 17 = .ok (.arraylength, 1) := by decide +kernel
theorem dX2_pathAt_18 : decode cX2_pathAt 18 = .ok (.if_icmp .ge 12, 3) := by decide +kernel
theorem dX2_pathAt_21 : decode cX2_pathAt 21 = .ok (.aload_n 0, 1) := by decide +kernel
theorem dX2_pathAt_22 : decode cX2_pathAt 22 = .ok (.getfield 9, 3) := by decide +kernel
theorem dX2_pathAt_25 : decode cX2_pathAt 25 = .ok (.iload_n 1, 1) := by decide +kernel
theorem dX2_pathAt_26 : decode cX2_pathAt 26 = .ok (.iaload, 1) := by decide +kernel
theorem dX2_pathAt_27 : decode cX2_pathAt 27 = .ok (.goto 4, 3) := by decide +kernel
theorem dX2_pathAt_30 : decode cX2_pathAt 30 = .ok (.iconst (-1), 1) := by decide +kernel
theorem dX2_pathAt_31 : decode cX2_pathAt 31 = .ok (.ireturn, 1) := by decide +kernel
theorem dX2_putPath_0 : decode cX2_putPath 0 = .ok (.iload_n 1, 1) := by decide +kernel
theorem dX2_putPath_1 : decode cX2_putPath 1 = .ok (.ifCond .lt 19, 3) := by decide +kernel
theorem dX2_putPath_4 : decode cX2_putPath 4 = .ok (.iload_n 1, 1) := by decide +kernel
theorem dX2_putPath_5 : decode cX2_putPath 5 = .ok (.aload_n 0, 1) := by decide +kernel
theorem dX2_putPath_6 : decode cX2_putPath 6 = .ok (.getfield 9, 3) := by decide +kernel
theorem dX2_putPath_9 : decode cX2_putPath 9 = .ok (.arraylength, 1) := by decide +kernel
theorem dX2_putPath_10 : decode cX2_putPath 10 = .ok (.if_icmp .ge 10, 3) := by decide +kernel
theorem dX2_putPath_13 : decode cX2_putPath 13 = .ok (.aload_n 0, 1) := by decide +kernel
theorem dX2_putPath_14 : decode cX2_putPath 14 = .ok (.getfield 9, 3) := by decide +kernel
theorem dX2_putPath_17 : decode cX2_putPath 17 = .ok (.iload_n 1, 1) := by decide +kernel
theorem dX2_putPath_18 : decode cX2_putPath 18 = .ok (.iload_n 2, 1) := by decide +kernel
theorem dX2_putPath_19 : decode cX2_putPath 19 = .ok (.iastore, 1) := by decide +kernel
theorem dX2_putPath_20 : decode cX2_putPath 20 = .ok (.return_, 1) := by decide +kernel
theorem dX2_addToPath_0 : decode cX2_addToPath 0 = .ok (.aload_n 0, 1) := by decide +kernel
theorem dX2_addToPath_1 : decode cX2_addToPath 1 = .ok (.aload_n 0, 1) := by decide +kernel
theorem dX2_addToPath_2 : decode cX2_addToPath 2 = .ok (.getfield 15, 3) := by decide +kernel
theorem dX2_addToPath_5 : decode cX2_addToPath 5 = .ok (.iload_n 1, 1) := by decide +kernel
theorem dX2_addToPath_6 : decode cX2_addToPath 6 = .ok (.invokevirtual 56, 3) := by decide +kernel
theorem dX2_addToPath_9 : decode cX2_addToPath 9 = .ok (.aload_n 0, 1) := by decide +kernel
theorem dX2_addToPath_10 : decode cX2_addToPath 10 = .ok (.dup, 1) := by decide +kernel
theorem dX2_addToPath_11 : decode cX2_addToPath 11 = .ok (.getfield 15, 3) := by decide +kernel
theorem dX2_addToPath_14 : decode cX2_addToPath 14 = .ok (.iconst 1, 1) := by decide +kernel
theorem dX2_addToPath_15 : decode cX2_addToPath 15 = .ok (.iadd, 1) := by decide +kernel
theorem dX2_addToPath_16 : decode cX2_addToPath 16 = .ok (.putfield 15, 3) := by decide +kernel
theorem dX2_addToPath_19 : decode cX2_addToPath 19 = .ok (.return_, 1) := by decide +kernel
theorem dX2_goesOver_0 : decode cX2_goesOver 0 = .ok (.iconst 0, 1) := by decide +kernel
theorem dX2_goesOver_1 : decode cX2_goesOver 1 = .ok (.istore_n 2, 1) := by decide +kernel
theorem dX2_goesOver_2 : decode cX2_goesOver 2 = .ok (.iload_n 2, 1) := by decide +kernel
theorem dX2_goesOver_3 : decode cX2_goesOver 3 = .ok (.aload_n 0, 1) := by decide +kernel
theorem dX2_goesOver_4 : decode cX2_goesOver 4 = .ok (.getfield 15, 3) := by decide +kernel
theorem dX2_goesOver_7 : decode cX2_goesOver 7 = .ok (.if_icmp .ge 20, 3) := by decide +kernel
theorem dX2_goesOver_10 : decode cX2_goesOver 10 = .ok (.aload_n 0, 1) := by decide +kernel
theorem dX2_goesOver_11 : decode cX2_goesOver 11 = .ok (.iload_n 2, 1) := by decide +kernel
theorem dX2_goesOver_12 : decode cX2_goesOver 12 = .ok (.invokevirtual 60, 3) := by decide +kernel
theorem dX2_goesOver_15 : decode cX2_goesOver 15 = .ok (.iload_n 1, 1) := by decide +kernel
theorem dX2_goesOver_16 : decode cX2_goesOver 16 = .ok (.if_icmp .ne 5, 3) := by decide +kernel
theorem dX2_goesOver_19 : decode cX2_goesOver 19 = .ok (.iconst 1, 1) := by decide +kernel
theorem dX2_goesOver_20 : decode cX2_goesOver 20 = .ok (.ireturn, 1) := by decide +kernel
theorem dX2_goesOver_21 : decode cX2_goesOver 21 = .ok (.iinc 2 1, 3) := by decide +kernel
theorem dX2_goesOver_24 : decode cX2_goesOver 24 = .ok (.goto (-22), 3) := by decide +kernel
theorem dX2_goesOver_27 : decode cX2_goesOver 27 = .ok (.iconst 0, 1) := by decide +kernel
theorem dX2_goesOver_28 : decode cX2_goesOver 28 = .ok (.ireturn, 1) := by decide +kernel
theorem dX2_hasPathOf_0 : decode cX2_hasPathOf 0 = .ok (.iconst 0, 1) := by decide +kernel
theorem dX2_hasPathOf_1 : decode cX2_hasPathOf 1 = .ok (.istore_n 2, 1) := by decide +kernel
theorem dX2_hasPathOf_2 : decode cX2_hasPathOf 2 = .ok (.iload_n 2, 1) := by decide +kernel
theorem dX2_hasPathOf_3 : decode cX2_hasPathOf 3 = .ok (.aload_n 0, 1) := by decide +kernel
theorem dX2_hasPathOf_4 : decode cX2_hasPathOf 4 = .ok (.getfield 15, 3) := by decide +kernel
theorem dX2_hasPathOf_7 : decode cX2_hasPathOf 7 = .ok (.if_icmp .ge 24, 3) := by decide +kernel
theorem dX2_hasPathOf_10 : decode cX2_hasPathOf 10 = .ok (.aload_n 0, 1) := by decide +kernel
theorem dX2_hasPathOf_11 : decode cX2_hasPathOf 11 = .ok (.iload_n 2, 1) := by decide +kernel
theorem dX2_hasPathOf_12 : decode cX2_hasPathOf 12 = .ok (.invokevirtual 60, 3) := by decide +kernel
theorem dX2_hasPathOf_15 : decode cX2_hasPathOf 15 = .ok (.aload_n 1, 1) := by decide +kernel
theorem dX2_hasPathOf_16 : decode cX2_hasPathOf 16 = .ok (.iload_n 2, 1) := by decide +kernel
theorem dX2_hasPathOf_17 : decode cX2_hasPathOf 17 = .ok (.invokevirtual 60, 3) := by decide +kernel
theorem dX2_hasPathOf_20 : decode cX2_hasPathOf 20 = .ok (.if_icmp .eq 5, 3) := by decide +kernel
theorem dX2_hasPathOf_23 : decode cX2_hasPathOf 23 = .ok (.iconst 0, 1) := by decide +kernel
theorem dX2_hasPathOf_24 : decode cX2_hasPathOf 24 = .ok (.ireturn, 1) := by decide +kernel
theorem dX2_hasPathOf_25 : decode cX2_hasPathOf 25 = .ok (.iinc 2 1, 3) := by decide +kernel
theorem dX2_hasPathOf_28 : decode cX2_hasPathOf 28 = .ok (.goto (-26), 3) := by decide +kernel
theorem dX2_hasPathOf_31 : decode cX2_hasPathOf 31 = .ok (.aload_n 0, 1) := by decide +kernel
theorem dX2_hasPathOf_32 : decode cX2_hasPathOf 32 = .ok (.getfield 15, 3) := by decide +kernel
theorem dX2_hasPathOf_35 : decode cX2_hasPathOf 35 = .ok (.aload_n 1, 1) := by decide +kernel
theorem dX2_hasPathOf_36 : decode cX2_hasPathOf 36 = .ok (.getfield 15, 3) := by decide +kernel
theorem dX2_hasPathOf_39 : decode cX2_hasPathOf 39 = .ok (.if_icmp .ne 7, 3) := by decide +kernel
theorem dX2_hasPathOf_42 : decode cX2_hasPathOf 42 = .ok (.iconst 1, 1) := by decide +kernel
theorem dX2_hasPathOf_43 : decode cX2_hasPathOf 43 = .ok (.goto 4, 3) := by decide +kernel
theorem dX2_hasPathOf_46 : decode cX2_hasPathOf 46 = .ok (.iconst 0, 1) := by decide +kernel
theorem dX2_hasPathOf_47 : decode cX2_hasPathOf 47 = .ok (.ireturn, 1) := by decide +kernel
theorem dX2_hasPathBackwards_0 : decode cX2_hasPathBackwards 0 = .ok (.iconst 0, 1) := by decide +kernel
theorem dX2_hasPathBackwards_1 : decode cX2_hasPathBackwards 1 = .ok (.istore_n 2, 1) := by decide +kernel
theorem dX2_hasPathBackwards_2 : decode cX2_hasPathBackwards 2 = .ok (.iload_n 2, 1) := by decide +kernel
theorem dX2_hasPathBackwards_3 : decode cX2_hasPathBackwards 3 = .ok (.aload_n 0, 1) := by decide +kernel
theorem dX2_hasPathBackwards_4 : decode cX2_hasPathBackwards 4 = .ok (.getfield 15, 3) := by decide +kernel
theorem dX2_hasPathBackwards_7 : decode cX2_hasPathBackwards 7 = .ok (.if_icmp .ge 31, 3) := by decide +kernel
theorem dX2_hasPathBackwards_10 : decode cX2_hasPathBackwards 10 = .ok (.aload_n 0, 1) := by decide +kernel
theorem dX2_hasPathBackwards_11 : decode cX2_hasPathBackwards 11 = .ok (.iload_n 2, 1) := by decide +kernel
theorem dX2_hasPathBackwards_12 : decode cX2_hasPathBackwards 12 = .ok (.invokevirtual 60, 3) := by decide +kernel
theorem dX2_hasPathBackwards_15 : decode cX2_hasPathBackwards 15 = .ok (.aload_n 1, 1) := by decide +kernel
theorem dX2_hasPathBackwards_16 : decode cX2_hasPathBackwards 16 = .ok (.aload_n 0, 1) := by decide +kernel
theorem dX2_hasPathBackwards_17 : decode cX2_hasPathBackwards 17 = .ok (.getfield 15, 3) := by decide +kernel
theorem dX2_hasPathBackwards_20 : decode cX2_hasPathBackwards 20 = .ok (.iconst 1, 1) := by decide +kernel
theorem dX2_hasPathBackwards_21 : decode cX2_hasPathBackwards 21 = .ok (.isub, 1) := by decide +kernel
theorem dX2_hasPathBackwards_22 : decode cX2_hasPathBackwards 22 = .ok (.iload_n 2, 1) := by decide +kernel
theorem dX2_hasPathBackwards_23 : decode cX2_hasPathBackwards 23 = .ok (.isub, 1) := by decide +kernel
theorem dX2_hasPathBackwards_24 : decode cX2_hasPathBackwards 24 = .ok (.invokevirtual 60, 3) := by decide +kernel
theorem dX2_hasPathBackwards_27 : decode cX2_hasPathBackwards 27 = .ok (.if_icmp .eq 5, 3) := by decide +kernel
theorem dX2_hasPathBackwards_30 : decode cX2_hasPathBackwards 30 = .ok (.iconst 0, 1) := by decide +kernel
theorem dX2_hasPathBackwards_31 : decode cX2_hasPathBackwards 31 = .ok (.ireturn, 1) := by decide +kernel
theorem dX2_hasPathBackwards_32 : decode cX2_hasPathBackwards 32 = .ok (.iinc 2 1, 3) := by decide +kernel
theorem dX2_hasPathBackwards_35 : decode cX2_hasPathBackwards 35 = .ok (.goto (-33), 3) := by decide +kernel
theorem dX2_hasPathBackwards_38 : decode cX2_hasPathBackwards 38 = .ok (.aload_n 0, 1) := by decide +kernel
theorem dX2_hasPathBackwards_39 : decode cX2_hasPathBackwards 39 = .ok (.getfield 15, 3) := by decide +kernel
theorem dX2_hasPathBackwards_42 : decode cX2_hasPathBackwards 42 = .ok (.aload_n 1, 1) := by decide +kernel
theorem dX2_hasPathBackwards_43 : decode cX2_hasPathBackwards 43 = .ok (.getfield 15, 3) := by decide +kernel
theorem dX2_hasPathBackwards_46 : decode cX2_hasPathBackwards 46 = .ok (.if_icmp .ne 7, 3) := by decide +kernel
theorem dX2_hasPathBackwards_49 : decode cX2_hasPathBackwards 49 = .ok (.iconst 1, 1) := by decide +kernel
theorem dX2_hasPathBackwards_50 : decode cX2_hasPathBackwards 50 = .ok (.goto 4, 3) := by decide +kernel
theorem dX2_hasPathBackwards_53 : decode cX2_hasPathBackwards 53 = .ok (.iconst 0, 1) := by decide +kernel
theorem dX2_hasPathBackwards_54 : decode cX2_hasPathBackwards 54 = .ok (.ireturn, 1) := by decide +kernel
theorem dX2_maySend_0 : decode cX2_maySend 0 = .ok (.aload_n 0, 1) := by decide +kernel
theorem dX2_maySend_1 : decode cX2_maySend 1 = .ok (.getfield 22, 3) := by decide +kernel
theorem dX2_maySend_4 : decode cX2_maySend 4 = .ok (.iconst 3, 1) := by decide +kernel
theorem dX2_maySend_5 : decode cX2_maySend 5 = .ok (.if_icmp .ne 12, 3) := by decide +kernel
theorem dX2_maySend_8 : decode cX2_maySend 8 = .ok (.iconst 2, 1) := by decide +kernel
theorem dX2_maySend_9 : decode cX2_maySend 9 = .ok (.aload_n 0, 1) := by decide +kernel
theorem dX2_maySend_10 : decode cX2_maySend 10 = .ok (.getfield 32, 3) := by decide +kernel
theorem dX2_maySend_13 : decode cX2_maySend 13 = .ok (.imul, 1) := by decide +kernel
theorem dX2_maySend_14 : decode cX2_maySend 14 = .ok (.goto 7, 3) := by decide +kernel
theorem dX2_maySend_17 : decode cX2_maySend 17 = .ok (.aload_n 0, 1) := by decide +kernel
theorem dX2_maySend_18 : decode cX2_maySend 18 = .ok (.getfield 32, 3) := by decide +kernel
theorem dX2_maySend_21 : decode cX2_maySend 21 = .ok (.istore_n 1, 1) := by decide +kernel
theorem dX2_maySend_22 : decode cX2_maySend 22 = .ok (.aload_n 0, 1) := by decide +kernel
theorem dX2_maySend_23 : decode cX2_maySend 23 = .ok (.getfield 25, 3) := by decide +kernel
theorem dX2_maySend_26 : decode cX2_maySend 26 = .ok (.ifCond .eq 27, 3) := by decide +kernel
theorem dX2_maySend_29 : decode cX2_maySend 29 = .ok (.aload_n 0, 1) := by decide +kernel
theorem dX2_maySend_30 : decode cX2_maySend 30 = .ok (.getfield 19, 3) := by decide +kernel
theorem dX2_maySend_33 : decode cX2_maySend 33 = .ok (.ifCond .le 20, 3) := by decide +kernel
theorem dX2_maySend_36 : decode cX2_maySend 36 = .ok (.aload_n 0, 1) := by decide +kernel
theorem dX2_maySend_37 : decode cX2_maySend 37 = .ok (.getfield 35, 3) := by decide +kernel
theorem dX2_maySend_40 : decode cX2_maySend 40 = .ok (.iconst 1, 1) := by decide +kernel
theorem dX2_maySend_41 : decode cX2_maySend 41 = .ok (.iadd, 1) := by decide +kernel
theorem dX2_maySend_42 : decode cX2_maySend 42 = .ok (.bipush 100, 2) := by decide +kernel
theorem dX2_maySend_44 : decode cX2_maySend 44 = .ok (.imul, 1) := by decide +kernel
theorem dX2_maySend_45 : decode cX2_maySend 45 = .ok (.iload_n 1, 1) := by decide +kernel
theorem dX2_maySend_46 : decode cX2_maySend 46 = .ok (.if_icmp .gt 7, 3) := by decide +kernel
theorem dX2_maySend_49 : decode cX2_maySend 49 = .ok (.iconst 1, 1) := by decide +kernel
theorem dX2_maySend_50 : decode cX2_maySend 50 = .ok (.goto 4, 3) := by decide +kernel
theorem dX2_maySend_53 : decode cX2_maySend 53 = .ok (.iconst 0, 1) := by decide +kernel
theorem dX2_maySend_54 : decode cX2_maySend 54 = .ok (.ireturn, 1) := by decide +kernel
theorem dX2_noteSent_0 : decode cX2_noteSent 0 = .ok (.aload_n 0, 1) := by decide +kernel
theorem dX2_noteSent_1 : decode cX2_noteSent 1 = .ok (.dup, 1) := by decide +kernel
theorem dX2_noteSent_2 : decode cX2_noteSent 2 = .ok (.getfield 19, 3) := by decide +kernel
theorem dX2_noteSent_5 : decode cX2_noteSent 5 = .ok (.iconst 1, 1) := by decide +kernel
theorem dX2_noteSent_6 : decode cX2_noteSent 6 = .ok (.isub, 1) := by decide +kernel
theorem dX2_noteSent_7 : decode cX2_noteSent 7 = .ok (.putfield 19, 3) := by decide +kernel
theorem dX2_noteSent_10 : decode cX2_noteSent 10 = .ok (.aload_n 0, 1) := by decide +kernel
theorem dX2_noteSent_11 : decode cX2_noteSent 11 = .ok (.dup, 1) := by decide +kernel
theorem dX2_noteSent_12 : decode cX2_noteSent 12 = .ok (.getfield 41, 3) := by decide +kernel
theorem dX2_noteSent_15 : decode cX2_noteSent 15 = .ok (.iconst 1, 1) := by decide +kernel
theorem dX2_noteSent_16 : decode cX2_noteSent 16 = .ok (.iadd, 1) := by decide +kernel
theorem dX2_noteSent_17 : decode cX2_noteSent 17 = .ok (.putfield 41, 3) := by decide +kernel
theorem dX2_noteSent_20 : decode cX2_noteSent 20 = .ok (.aload_n 0, 1) := by decide +kernel
theorem dX2_noteSent_21 : decode cX2_noteSent 21 = .ok (.dup, 1) := by decide +kernel
theorem dX2_noteSent_22 : decode cX2_noteSent 22 = .ok (.getfield 35, 3) := by decide +kernel
theorem dX2_noteSent_25 : decode cX2_noteSent 25 = .ok (.iconst 1, 1) := by decide +kernel
theorem dX2_noteSent_26 : decode cX2_noteSent 26 = .ok (.iadd, 1) := by decide +kernel
theorem dX2_noteSent_27 : decode cX2_noteSent 27 = .ok (.putfield 35, 3) := by decide +kernel
theorem dX2_noteSent_30 : decode cX2_noteSent 30 = .ok (.return_, 1) := by decide +kernel
theorem dX2_noteReturn_0 : decode cX2_noteReturn 0 = .ok (.aload_n 0, 1) := by decide +kernel
theorem dX2_noteReturn_1 : decode cX2_noteReturn 1 = .ok (.dup, 1) := by decide +kernel
theorem dX2_noteReturn_2 : decode cX2_noteReturn 2 = .ok (.getfield 35, 3) := by decide +kernel
theorem dX2_noteReturn_5 : decode cX2_noteReturn 5 = .ok (.iconst 1, 1) := by decide +kernel
theorem dX2_noteReturn_6 : decode cX2_noteReturn 6 = .ok (.isub, 1) := by decide +kernel
theorem dX2_noteReturn_7 : decode cX2_noteReturn 7 = .ok (.putfield 35, 3) := by decide +kernel
theorem dX2_noteReturn_10 : decode cX2_noteReturn 10 = .ok (.aload_n 0, 1) := by decide +kernel
theorem dX2_noteReturn_11 : decode cX2_noteReturn 11 = .ok (.iload_n 2, 1) := by decide +kernel
theorem dX2_noteReturn_12 : decode cX2_noteReturn 12 = .ok (.aload_n 1, 1) := by decide +kernel
theorem dX2_noteReturn_13 : decode cX2_noteReturn 13 = .ok (.getfield 64, 3) := by decide +kernel
theorem dX2_noteReturn_16 : decode cX2_noteReturn 16 = .ok (.isub, 1) := by decide +kernel
theorem dX2_noteReturn_17 : decode cX2_noteReturn 17 = .ok (.putfield 38, 3) := by decide +kernel
theorem dX2_noteReturn_20 : decode cX2_noteReturn 20 = .ok (.aload_n 1, 1) := by decide +kernel
theorem dX2_noteReturn_21 : decode cX2_noteReturn 21 = .ok (.getfield 69, 3) := by decide +kernel
theorem dX2_noteReturn_24 : decode cX2_noteReturn 24 = .ok (.ifCond .eq 42, 3) := by decide +kernel
theorem dX2_noteReturn_27 : decode cX2_noteReturn 27 = .ok (.aload_n 0, 1) := by decide +kernel
theorem dX2_noteReturn_28 : decode cX2_noteReturn 28 = .ok (.dup, 1) := by decide +kernel
theorem dX2_noteReturn_29 : decode cX2_noteReturn 29 = .ok (.getfield 47, 3) := by decide +kernel
theorem dX2_noteReturn_32 : decode cX2_noteReturn 32 = .ok (.iconst 1, 1) := by decide +kernel
theorem dX2_noteReturn_33 : decode cX2_noteReturn 33 = .ok (.iadd, 1) := by decide +kernel
theorem dX2_noteReturn_34 : decode cX2_noteReturn 34 = .ok (.putfield 47, 3) := by decide +kernel
theorem dX2_noteReturn_37 : decode cX2_noteReturn 37 = .ok (.aload_n 0, 1) := by decide +kernel
theorem dX2_noteReturn_38 : decode cX2_noteReturn 38 = .ok (.aload_n 0, 1) := by decide +kernel
theorem dX2_noteReturn_39 : decode cX2_noteReturn 39 = .ok (.getfield 19, 3) := by decide +kernel
theorem dX2_noteReturn_42 : decode cX2_noteReturn 42 = .ok (.iconst 1, 1) := by decide +kernel
theorem dX2_noteReturn_43 : decode cX2_noteReturn 43 = .ok (.iadd, 1) := by decide +kernel
theorem dX2_noteReturn_44 : decode cX2_noteReturn 44 = .ok (.sipush 9999, 3) := by decide +kernel
theorem dX2_noteReturn_47 : decode cX2_noteReturn 47 = .ok (.invokestatic 71, 3) := by decide +kernel
theorem dX2_noteReturn_50 : decode cX2_noteReturn 50 = .ok (.putfield 19, 3) := by decide +kernel
theorem dX2_noteReturn_53 : decode cX2_noteReturn 53 = .ok (.aload_n 0, 1) := by decide +kernel
theorem dX2_noteReturn_54 : decode cX2_noteReturn 54 = .ok (.dup, 1) := by decide +kernel
theorem dX2_noteReturn_55 : decode cX2_noteReturn 55 = .ok (.getfield 32, 3) := by decide +kernel
theorem dX2_noteReturn_58 : decode cX2_noteReturn 58 = .ok (.iconst 2, 1) := by decide +kernel
theorem dX2_noteReturn_59 : decode cX2_noteReturn 59 = .ok (.idiv, 1) := by decide +kernel
theorem dX2_noteReturn_60 : decode cX2_noteReturn 60 = .ok (.putfield 32, 3) := by decide +kernel
theorem dX2_noteReturn_63 : decode cX2_noteReturn 63 = .ok (.goto 31, 3) := by decide +kernel
theorem dX2_noteReturn_66 : decode cX2_noteReturn 66 = .ok (.aload_n 0, 1) := by decide +kernel
theorem dX2_noteReturn_67 : decode cX2_noteReturn 67 = .ok (.dup, 1) := by decide +kernel
theorem dX2_noteReturn_68 : decode cX2_noteReturn 68 = .ok (.getfield 44, 3) := by decide +kernel
theorem dX2_noteReturn_71 : decode cX2_noteReturn 71 = .ok (.iconst 1, 1) := by decide +kernel
theorem dX2_noteReturn_72 : decode cX2_noteReturn 72 = .ok (.iadd, 1) := by decide +kernel
theorem dX2_noteReturn_73 : decode cX2_noteReturn 73 = .ok (.putfield 44, 3) := by decide +kernel
theorem dX2_noteReturn_76 : decode cX2_noteReturn 76 = .ok (.aload_n 0, 1) := by decide +kernel
theorem dX2_noteReturn_77 : decode cX2_noteReturn 77 = .ok (.dup, 1) := by decide +kernel
theorem dX2_noteReturn_78 : decode cX2_noteReturn 78 = .ok (.getfield 32, 3) := by decide +kernel
theorem dX2_noteReturn_81 : decode cX2_noteReturn 81 = .ok (.aload_n 0, 1) := by decide +kernel
theorem dX2_noteReturn_82 : decode cX2_noteReturn 82 = .ok (.aload_n 1, 1) := by decide +kernel
theorem dX2_noteReturn_83 : decode cX2_noteReturn 83 = .ok (.getfield 77, 3) := by decide +kernel
theorem dX2_noteReturn_86 : decode cX2_noteReturn 86 = .ok (.iload_n 3, 1) := by decide +kernel
theorem dX2_noteReturn_87 : decode cX2_noteReturn 87 = .ok (.invokevirtual 80, 3) := by decide +kernel
theorem dX2_noteReturn_90 : decode cX2_noteReturn 90 = .ok (.iadd, 1) := by decide +kernel
theorem dX2_noteReturn_91 : decode cX2_noteReturn 91 = .ok (.putfield 32, 3) := by decide +kernel
theorem dX2_noteReturn_94 : decode cX2_noteReturn 94 = .ok (.aload_n 0, 1) := by decide +kernel
theorem dX2_noteReturn_95 : decode cX2_noteReturn 95 = .ok (.bipush 100, 2) := by decide +kernel
theorem dX2_noteReturn_97 : decode cX2_noteReturn 97 = .ok (.aload_n 0, 1) := by decide +kernel
theorem dX2_noteReturn_98 : decode cX2_noteReturn 98 = .ok (.getfield 32, 3) := by decide +kernel
theorem dX2_noteReturn_101 : decode cX2_noteReturn 101 = .ok (.sipush 4000, 3) := by decide +kernel
theorem dX2_noteReturn_104 : decode cX2_noteReturn 104 = .ok (.invokestatic 71, 3) := by decide +kernel
theorem dX2_noteReturn_107 : decode cX2_noteReturn 107 = .ok (.invokestatic 84, 3) := by decide +kernel
theorem dX2_noteReturn_110 : decode cX2_noteReturn 110 = .ok (.putfield 32, 3) := by decide +kernel
theorem dX2_noteReturn_113 : decode cX2_noteReturn 113 = .ok (.return_, 1) := by decide +kernel
theorem dX2_gain_0 : decode cX2_gain 0 = .ok (.iload_n 2, 1) := by decide +kernel
theorem dX2_gain_1 : decode cX2_gain 1 = .ok (.ifCond .eq 23, 3) := by decide +kernel
theorem dX2_gain_4 : decode cX2_gain 4 = .ok (.aload_n 0, 1) := by decide +kernel
theorem dX2_gain_5 : decode cX2_gain 5 = .ok (.getfield 32, 3) := by decide +kernel
theorem dX2_gain_8 : decode cX2_gain 8 = .ok (.ifCond .le 14, 3) := by decide +kernel
theorem dX2_gain_11 : decode cX2_gain 11 = .ok (.sipush 10000, 3) := by decide +kernel
theorem dX2_gain_14 : decode cX2_gain 14 = .ok (.aload_n 0, 1) := by decide +kernel
theorem dX2_gain_15 : decode cX2_gain 15 = .ok (.getfield 32, 3) := by decide +kernel
theorem dX2_gain_18 : decode cX2_gain 18 = .ok (.idiv, 1) := by decide +kernel
theorem dX2_gain_19 : decode cX2_gain 19 = .ok (.goto 4, 3) := by decide +kernel
theorem dX2_gain_22 : decode cX2_gain 22 = .ok (.iconst 0, 1) := by decide +kernel
theorem dX2_gain_23 : decode cX2_gain 23 = .ok (.ireturn, 1) := by decide +kernel
theorem dX2_gain_24 : decode cX2_gain 24 = .ok (.aload_n 0, 1) := by decide +kernel
theorem dX2_gain_25 : decode cX2_gain 25 = .ok (.getfield 22, 3) := by decide +kernel
theorem dX2_gain_28 : decode cX2_gain 28 = .ok (.iconst 1, 1) := by decide +kernel
theorem dX2_gain_29 : decode cX2_gain 29 = .ok (.if_icmp .ne 11, 3) := by decide +kernel
theorem dX2_gain_32 : decode cX2_gain 32 = .ok (.iconst 0, 1) := by decide +kernel
theorem dX2_gain_33 : decode cX2_gain 33 = .ok (.iload_n 1, 1) := by decide +kernel
theorem dX2_gain_34 : decode cX2_gain 34 = .ok (.invokestatic 84, 3) := by decide +kernel
theorem dX2_gain_37 : decode cX2_gain 37 = .ok (.goto 4, 3) := by decide +kernel
theorem dX2_gain_40 : decode cX2_gain 40 = .ok (.iload_n 1, 1) := by decide +kernel
theorem dX2_gain_41 : decode cX2_gain 41 = .ok (.ireturn, 1) := by decide +kernel
theorem dX2_isThrough_0 : decode cX2_isThrough 0 = .ok (.aload_n 0, 1) := by decide +kernel
theorem dX2_isThrough_1 : decode cX2_isThrough 1 = .ok (.getfield 19, 3) := by decide +kernel
theorem dX2_isThrough_4 : decode cX2_isThrough 4 = .ok (.ifCond .ne 14, 3) := by decide +kernel
theorem dX2_isThrough_7 : decode cX2_isThrough 7 = .ok (.aload_n 0, 1) := by decide +kernel
theorem dX2_isThrough_8 : decode cX2_isThrough 8 = .ok (.getfield 35, 3) := by decide +kernel
theorem dX2_isThrough_11 : decode cX2_isThrough 11 = .ok (.ifCond .ne 7, 3) := by decide +kernel
theorem dX2_isThrough_14 : decode cX2_isThrough 14 = .ok (.iconst 1, 1) := by decide +kernel
theorem dX2_isThrough_15 : decode cX2_isThrough 15 = .ok (.goto 4, 3) := by decide +kernel
theorem dX2_isThrough_18 : decode cX2_isThrough 18 = .ok (.iconst 0, 1) := by decide +kernel
theorem dX2_isThrough_19 : decode cX2_isThrough 19 = .ok (.ireturn, 1) := by decide +kernel
theorem dX2_tell_0 : decode cX2_tell 0 = .ok (.iload_n 1, 1) := by decide +kernel
theorem dX2_tell_1 : decode cX2_tell 1 = .ok (.tableswitch 113 0 9 #[55, 60, 65, 70, 83, 88, 93, 98, 103, 108], 55) := by decide +kernel
theorem dX2_tell_56 : decode cX2_tell 56 = .ok (.aload_n 0, 1) := by decide +kernel
theorem dX2_tell_57 : decode cX2_tell 57 = .ok (.getfield 15, 3) := by decide +kernel
theorem dX2_tell_60 : decode cX2_tell 60 = .ok (.ireturn, 1) := by decide +kernel
theorem dX2_tell_61 : decode cX2_tell 61 = .ok (.aload_n 0, 1) := by decide +kernel
theorem dX2_tell_62 : decode cX2_tell 62 = .ok (.getfield 19, 3) := by decide +kernel
theorem dX2_tell_65 : decode cX2_tell 65 = .ok (.ireturn, 1) := by decide +kernel
theorem dX2_tell_66 : decode cX2_tell 66 = .ok (.aload_n 0, 1) := by decide +kernel
theorem dX2_tell_67 : decode cX2_tell 67 = .ok (.getfield 22, 3) := by decide +kernel
theorem dX2_tell_70 : decode cX2_tell 70 = .ok (.ireturn, 1) := by decide +kernel
theorem dX2_tell_71 : decode cX2_tell 71 = .ok (.aload_n 0, 1) := by decide +kernel
theorem dX2_tell_72 : decode cX2_tell 72 = .ok (.getfield 25, 3) := by decide +kernel
theorem dX2_tell_75 : decode cX2_tell 75 = .ok (.ifCond .eq 7, 3) := by decide +kernel
theorem dX2_tell_78 : decode cX2_tell 78 = .ok (.iconst 1, 1) := by decide +kernel
theorem dX2_tell_79 : decode cX2_tell 79 = .ok (.goto 4, 3) := by decide +kernel
theorem dX2_tell_82 : decode cX2_tell 82 = .ok (.iconst 0, 1) := by decide +kernel
theorem dX2_tell_83 : decode cX2_tell 83 = .ok (.ireturn, 1) := by decide +kernel
theorem dX2_tell_84 : decode cX2_tell 84 = .ok (.aload_n 0, 1) := by decide +kernel
theorem dX2_tell_85 : decode cX2_tell 85 = .ok (.getfield 29, 3) := by decide +kernel
theorem dX2_tell_88 : decode cX2_tell 88 = .ok (.ireturn, 1) := by decide +kernel
theorem dX2_tell_89 : decode cX2_tell 89 = .ok (.aload_n 0, 1) := by decide +kernel
theorem dX2_tell_90 : decode cX2_tell 90 = .ok (.getfield 32, 3) := by decide +kernel
theorem dX2_tell_93 : decode cX2_tell 93 = .ok (.ireturn, 1) := by decide +kernel
theorem dX2_tell_94 : decode cX2_tell 94 = .ok (.aload_n 0, 1) := by decide +kernel
theorem dX2_tell_95 : decode cX2_tell 95 = .ok (.getfield 35, 3) := by decide +kernel
theorem dX2_tell_98 : decode cX2_tell 98 = .ok (.ireturn, 1) := by decide +kernel
theorem dX2_tell_99 : decode cX2_tell 99 = .ok (.aload_n 0, 1) := by decide +kernel
theorem dX2_tell_100 : decode cX2_tell 100 = .ok (.getfield 38, 3) := by decide +kernel
theorem dX2_tell_103 : decode cX2_tell 103 = .ok (.ireturn, 1) := by decide +kernel
theorem dX2_tell_104 : decode cX2_tell 104 = .ok (.aload_n 0, 1) := by decide +kernel
theorem dX2_tell_105 : decode cX2_tell 105 = .ok (.getfield 41, 3) := by decide +kernel
theorem dX2_tell_108 : decode cX2_tell 108 = .ok (.ireturn, 1) := by decide +kernel
theorem dX2_tell_109 : decode cX2_tell 109 = .ok (.aload_n 0, 1) := by decide +kernel
theorem dX2_tell_110 : decode cX2_tell 110 = .ok (.getfield 44, 3) := by decide +kernel
theorem dX2_tell_113 : decode cX2_tell 113 = .ok (.ireturn, 1) := by decide +kernel
theorem dX2_tell_114 : decode cX2_tell 114 = .ok (.aload_n 0, 1) := by decide +kernel
theorem dX2_tell_115 : decode cX2_tell 115 = .ok (.getfield 47, 3) := by decide +kernel
theorem dX2_tell_118 : decode cX2_tell 118 = .ok (.ireturn, 1) := by decide +kernel
theorem dX3_init_0 : decode cX3_init 0 = .ok (.aload_n 0, 1) := by decide +kernel
theorem dX3_init_1 : decode cX3_init 1 = .ok (.invokespecial 3, 3) := by decide +kernel
theorem dX3_init_4 : decode cX3_init 4 = .ok (.return_, 1) := by decide +kernel
theorem dX3_append_0 : decode cX3_append 0 = .ok (.aload_n 1, 1) := by decide +kernel
theorem dX3_append_1 : decode cX3_append 1 = .ok (.aconst_null, 1) := by decide +kernel
theorem dX3_append_2 : decode cX3_append 2 = .ok (.putfield 9, 3) := by decide +kernel
theorem dX3_append_5 : decode cX3_append 5 = .ok (.aload_n 0, 1) := by decide +kernel
theorem dX3_append_6 : decode cX3_append 6 = .ok (.getfield 15, 3) := by decide +kernel
theorem dX3_append_9 : decode cX3_append 9 = .ok (.ifnonnull 11, 3) := by decide +kernel
theorem dX3_append_12 : decode cX3_append 12 = .ok (.aload_n 0, 1) := by decide +kernel
theorem dX3_append_13 : decode cX3_append 13 = .ok (.aload_n 1, 1) := by decide +kernel
theorem dX3_append_14 : decode cX3_append 14 = .ok (.putfield 20, 3) := by decide +kernel
theorem dX3_append_17 : decode cX3_append 17 = .ok (.goto 11, 3) := by decide +kernel
theorem dX3_append_20 : decode cX3_append 20 = .ok (.aload_n 0, 1) := by decide +kernel
theorem dX3_append_21 : decode cX3_append 21 = .ok (.getfield 15, 3) := by decide +kernel
theorem dX3_append_24 : decode cX3_append 24 = .ok (.aload_n 1, 1) := by decide +kernel
theorem dX3_append_25 : decode cX3_append 25 = .ok (.putfield 9, 3) := by decide +kernel
theorem dX3_append_28 : decode cX3_append 28 = .ok (.aload_n 0, 1) := by decide +kernel
theorem dX3_append_29 : decode cX3_append 29 = .ok (.aload_n 1, 1) := by decide +kernel
theorem dX3_append_30 : decode cX3_append 30 = .ok (.putfield 15, 3) := by decide +kernel
theorem dX3_append_33 : decode cX3_append 33 = .ok (.aload_n 0, 1) := by decide +kernel
theorem dX3_append_34 : decode cX3_append 34 = .ok (.dup, 1) := by decide +kernel
theorem dX3_append_35 : decode cX3_append 35 = .ok (.getfield 23, 3) := by decide +kernel
theorem dX3_append_38 : decode cX3_append 38 = .ok (.iconst 1, 1) := by decide +kernel
theorem dX3_append_39 : decode cX3_append 39 = .ok (.iadd, 1) := by decide +kernel
theorem dX3_append_40 : decode cX3_append 40 = .ok (.putfield 23, 3) := by decide +kernel
theorem dX3_append_43 : decode cX3_append 43 = .ok (.return_, 1) := by decide +kernel
theorem dX3_takeFirst_0 : decode cX3_takeFirst 0 = .ok (.aload_n 0, 1) := by decide +kernel
theorem dX3_takeFirst_1 : decode cX3_takeFirst 1 = .ok (.getfield 20, 3) := by decide +kernel
theorem dX3_takeFirst_4 : decode cX3_takeFirst 4 = .ok (.astore_n 1, 1) := by decide +kernel
theorem dX3_takeFirst_5 : decode cX3_takeFirst 5 = .ok (.aload_n 1, 1) := by decide +kernel
theorem dX3_takeFirst_6 : decode cX3_takeFirst 6 = .ok (.ifnonnull 5, 3) := by decide +kernel
theorem dX3_takeFirst_9 : decode cX3_takeFirst 9 = .ok (.aconst_null, 1) := by decide +kernel
theorem dX3_takeFirst_10 : decode cX3_takeFirst 10 = .ok (.areturn, 1) := by decide +kernel
theorem dX3_takeFirst_11 : decode cX3_takeFirst 11 = .ok (.aload_n 0, 1) := by decide +kernel
theorem dX3_takeFirst_12 : decode cX3_takeFirst 12 = .ok (.aload_n 1, 1) := by decide +kernel
theorem dX3_takeFirst_13 : decode cX3_takeFirst 13 = .ok (.getfield 9, 3) := by decide +kernel
theorem dX3_takeFirst_16 : decode cX3_takeFirst 16 = .ok (.putfield 20, 3) := by decide +kernel
theorem dX3_takeFirst_19 : decode cX3_takeFirst 19 = .ok (.aload_n 0, 1) := by decide +kernel
theorem dX3_takeFirst_20 : decode cX3_takeFirst 20 = .ok (.getfield 20, 3) := by decide +kernel
theorem dX3_takeFirst_23 : decode cX3_takeFirst 23 = .ok (.ifnonnull 8, 3) := by decide +kernel
theorem dX3_takeFirst_26 : decode cX3_takeFirst 26 = .ok (.aload_n 0, 1) := by decide +kernel
theorem dX3_takeFirst_27 : decode cX3_takeFirst 27 = .ok (.aconst_null, 1) := by decide +kernel
theorem dX3_takeFirst_28 : decode cX3_takeFirst 28 = .ok (.putfield 15, 3) := by decide +kernel
theorem dX3_takeFirst_31 : decode cX3_takeFirst 31 = .ok (.aload_n 1, 1) := by decide +kernel
theorem dX3_takeFirst_32 : decode cX3_takeFirst 32 = .ok (.aconst_null, 1) := by decide +kernel
theorem dX3_takeFirst_33 : decode cX3_takeFirst 33 = .ok (.putfield 9, 3) := by decide +kernel
theorem dX3_takeFirst_36 : decode cX3_takeFirst 36 = .ok (.aload_n 0, 1) := by decide +kernel
theorem dX3_takeFirst_37 : decode cX3_takeFirst 37 = .ok (.dup, 1) := by decide +kernel
theorem dX3_takeFirst_38 : decode cX3_takeFirst 38 = .ok (.getfield 23, 3) := by decide +kernel
theorem dX3_takeFirst_41 : decode cX3_takeFirst 41 = .ok (.iconst 1, 1) := by decide +kernel
theorem dX3_takeFirst_42 : decode cX3_takeFirst 42 = .ok (.isub, 1) := by decide +kernel
theorem dX3_takeFirst_43 : decode cX3_takeFirst 43 = .ok (.putfield 23, 3) := by decide +kernel
theorem dX3_takeFirst_46 : decode cX3_takeFirst 46 = .ok (.aload_n 1, 1) := by decide +kernel
theorem dX3_takeFirst_47 : decode cX3_takeFirst 47 = .ok (.areturn, 1) := by decide +kernel
theorem dX3_moveAllTo_0 : decode cX3_moveAllTo 0 = .ok (.aload_n 0, 1) := by decide +kernel
theorem dX3_moveAllTo_1 : decode cX3_moveAllTo 1 = .ok (.getfield 23, 3) := by decide +kernel
theorem dX3_moveAllTo_4 : decode cX3_moveAllTo 4 = .ok (.istore_n 2, 1) := by decide +kernel
theorem dX3_moveAllTo_5 : decode cX3_moveAllTo 5 = .ok (.iload_n 2, 1) := by decide +kernel
theorem dX3_moveAllTo_6 : decode cX3_moveAllTo 6 = .ok (.ifCond .le 23, 3) := by decide +kernel
theorem dX3_moveAllTo_9 : decode cX3_moveAllTo 9 = .ok (.aload_n 0, 1) := by decide +kernel
theorem dX3_moveAllTo_10 : decode cX3_moveAllTo 10 = .ok (.invokevirtual 27, 3) := by decide +kernel
theorem dX3_moveAllTo_13 : decode cX3_moveAllTo 13 = .ok (.astore_n 3, 1) := by decide +kernel
theorem dX3_moveAllTo_14 : decode cX3_moveAllTo 14 = .ok (.aload_n 3, 1) := by decide +kernel
theorem dX3_moveAllTo_15 : decode cX3_moveAllTo 15 = .ok (.ifnull 8, 3) := by decide +kernel
theorem dX3_moveAllTo_18 : decode cX3_moveAllTo 18 = .ok (.aload_n 1, 1) := by decide +kernel
theorem dX3_moveAllTo_19 : decode cX3_moveAllTo 19 = .ok (.aload_n 3, 1) := by decide +kernel
theorem dX3_moveAllTo_20 : decode cX3_moveAllTo 20 = .ok (.invokevirtual 31, 3) := by decide +kernel
theorem dX3_moveAllTo_23 : decode cX3_moveAllTo 23 = .ok (.iinc 2 (-1), 3) := by decide +kernel
theorem dX3_moveAllTo_26 : decode cX3_moveAllTo 26 = .ok (.goto (-21), 3) := by decide +kernel
theorem dX3_moveAllTo_29 : decode cX3_moveAllTo 29 = .ok (.return_, 1) := by decide +kernel
theorem dX3_packetAt_0 : decode cX3_packetAt 0 = .ok (.iload_n 1, 1) := by decide +kernel
theorem dX3_packetAt_1 : decode cX3_packetAt 1 = .ok (.istore_n 2, 1) := by decide +kernel
theorem dX3_packetAt_2 : decode cX3_packetAt 2 = .ok (.aload_n 0, 1) := by decide +kernel
theorem dX3_packetAt_3 : decode cX3_packetAt 3 = .ok (.getfield 20, 3) := by decide +kernel
theorem dX3_packetAt_6 : decode cX3_packetAt 6 = .ok (.astore_n 3, 1) := by decide +kernel
theorem dX3_packetAt_7 : decode cX3_packetAt 7 = .ok (.aload_n 3, 1) := by decide +kernel
theorem dX3_packetAt_8 : decode cX3_packetAt 8 = .ok (.ifnull 20, 3) := by decide +kernel
theorem dX3_packetAt_11 : decode cX3_packetAt 11 = .ok (.iload_n 2, 1) := by decide +kernel
theorem dX3_packetAt_12 : decode cX3_packetAt 12 = .ok (.ifCond .ne 5, 3) := by decide +kernel
theorem dX3_packetAt_15 : decode cX3_packetAt 15 = .ok (.aload_n 3, 1) := by decide +kernel
theorem dX3_packetAt_16 : decode cX3_packetAt 16 = .ok (.areturn, 1) := by decide +kernel
theorem dX3_packetAt_17 : decode cX3_packetAt 17 = .ok (.iinc 2 (-1), 3) := by decide +kernel
theorem dX3_packetAt_20 : decode cX3_packetAt 20 = .ok (.aload_n 3, 1) := by decide +kernel
theorem dX3_packetAt_21 : decode cX3_packetAt 21 = .ok (.getfield 9, 3) := by decide +kernel
theorem dX3_packetAt_24 : decode cX3_packetAt 24 = .ok (.astore_n 3, 1) := by decide +kernel
theorem dX3_packetAt_25 : decode cX3_packetAt 25 = .ok (.goto (-18), 3) := by decide +kernel
theorem dX3_packetAt_28 : decode cX3_packetAt 28 = .ok (.aconst_null, 1) := by decide +kernel
theorem dX3_packetAt_29 : decode cX3_packetAt 29 = .ok (.areturn, 1) := by decide +kernel
theorem dX3_countOf_0 : decode cX3_countOf 0 = .ok (.iconst 0, 1) := by decide +kernel
theorem dX3_countOf_1 : decode cX3_countOf 1 = .ok (.istore_n 2, 1) := by decide +kernel
theorem dX3_countOf_2 : decode cX3_countOf 2 = .ok (.aload_n 0, 1) := by decide +kernel
theorem dX3_countOf_3 : decode cX3_countOf 3 = .ok (.getfield 20, 3) := by decide +kernel
theorem dX3_countOf_6 : decode cX3_countOf 6 = .ok (.astore_n 3, 1) := by decide +kernel
theorem dX3_countOf_7 : decode cX3_countOf 7 = .ok (.aload_n 3, 1) := by decide +kernel
theorem dX3_countOf_8 : decode cX3_countOf 8 = .ok (.ifnull 22, 3) := by decide +kernel
theorem dX3_countOf_11 : decode cX3_countOf 11 = .ok (.aload_n 3, 1) := by decide +kernel
theorem dX3_countOf_12 : decode cX3_countOf 12 = .ok (.getfield 35, 3) := by decide +kernel
theorem dX3_countOf_15 : decode cX3_countOf 15 = .ok (.iload_n 1, 1) := by decide +kernel
theorem dX3_countOf_16 : decode cX3_countOf 16 = .ok (.if_icmp .ne 6, 3) := by decide +kernel
theorem dX3_countOf_19 : decode cX3_countOf 19 = .ok (.iinc 2 1, 3) := by decide +kernel
theorem dX3_countOf_22 : decode cX3_countOf 22 = .ok (.aload_n 3, 1) := by decide +kernel
theorem dX3_countOf_23 : decode cX3_countOf 23 = .ok (.getfield 9, 3) := by decide +kernel
theorem dX3_countOf_26 : decode cX3_countOf 26 = .ok (.astore_n 3, 1) := by decide +kernel
theorem dX3_countOf_27 : decode cX3_countOf 27 = .ok (.goto (-20), 3) := by decide +kernel
theorem dX3_countOf_30 : decode cX3_countOf 30 = .ok (.iload_n 2, 1) := by decide +kernel
theorem dX3_countOf_31 : decode cX3_countOf 31 = .ok (.ireturn, 1) := by decide +kernel
theorem dX3_lostOf_0 : decode cX3_lostOf 0 = .ok (.iconst 0, 1) := by decide +kernel
theorem dX3_lostOf_1 : decode cX3_lostOf 1 = .ok (.istore_n 2, 1) := by decide +kernel
theorem dX3_lostOf_2 : decode cX3_lostOf 2 = .ok (.aload_n 0, 1) := by decide +kernel
theorem dX3_lostOf_3 : decode cX3_lostOf 3 = .ok (.getfield 20, 3) := by decide +kernel
theorem dX3_lostOf_6 : decode cX3_lostOf 6 = .ok (.astore_n 3, 1) := by decide +kernel
theorem dX3_lostOf_7 : decode cX3_lostOf 7 = .ok (.aload_n 3, 1) := by decide +kernel
theorem dX3_lostOf_8 : decode cX3_lostOf 8 = .ok (.ifnull 29, 3) := by decide +kernel
theorem dX3_lostOf_11 : decode cX3_lostOf 11 = .ok (.aload_n 3, 1) := by decide +kernel
theorem dX3_lostOf_12 : decode cX3_lostOf 12 = .ok (.getfield 35, 3) := by decide +kernel
theorem dX3_lostOf_15 : decode cX3_lostOf 15 = .ok (.iload_n 1, 1) := by decide +kernel
theorem dX3_lostOf_16 : decode cX3_lostOf 16 = .ok (.if_icmp .ne 13, 3) := by decide +kernel
theorem dX3_lostOf_19 : decode cX3_lostOf 19 = .ok (.aload_n 3, 1) := by decide +kernel
theorem dX3_lostOf_20 : decode cX3_lostOf 20 = .ok (.getfield 38, 3) := by decide +kernel
theorem dX3_lostOf_23 : decode cX3_lostOf 23 = .ok (.ifCond .eq 6, 3) := by decide +kernel
theorem dX3_lostOf_26 : decode cX3_lostOf 26 = .ok (.iinc 2 1, 3) := by decide +kernel
theorem dX3_lostOf_29 : decode cX3_lostOf 29 = .ok (.aload_n 3, 1) := by decide +kernel
theorem dX3_lostOf_30 : decode cX3_lostOf 30 = .ok (.getfield 9, 3) := by decide +kernel
theorem dX3_lostOf_33 : decode cX3_lostOf 33 = .ok (.astore_n 3, 1) := by decide +kernel
theorem dX3_lostOf_34 : decode cX3_lostOf 34 = .ok (.goto (-27), 3) := by decide +kernel
theorem dX3_lostOf_37 : decode cX3_lostOf 37 = .ok (.iload_n 2, 1) := by decide +kernel
theorem dX3_lostOf_38 : decode cX3_lostOf 38 = .ok (.ireturn, 1) := by decide +kernel
theorem dX3_earlierSentOf_0 : decode cX3_earlierSentOf 0 = .ok (.iload_n 2, 1) := by decide +kernel
theorem dX3_earlierSentOf_1 : decode cX3_earlierSentOf 1 = .ok (.istore_n 3, 1) := by decide +kernel
theorem dX3_earlierSentOf_2 : decode cX3_earlierSentOf 2 = .ok (.aload_n 0, 1) := by decide +kernel
theorem dX3_earlierSentOf_3 : decode cX3_earlierSentOf 3 = .ok (.getfield 20, 3) := by decide +kernel
theorem dX3_earlierSentOf_6 : decode cX3_earlierSentOf 6 = .ok (.astore 4, 2) := by decide +kernel
theorem dX3_earlierSentOf_8 : decode cX3_earlierSentOf 8 = .ok (.aload 4, 2) := by decide +kernel
theorem dX3_earlierSentOf_10 : decode cX3_earlierSentOf 10 = .ok (.ifnull 42, 3) := by decide +kernel
theorem dX3_earlierSentOf_13 : decode cX3_earlierSentOf 13 = .ok (.aload 4, 2) := by decide +kernel
theorem dX3_earlierSentOf_15 : decode cX3_earlierSentOf 15 = .ok (.getfield 35, 3) := by decide +kernel
theorem dX3_earlierSentOf_18 : decode cX3_earlierSentOf 18 = .ok (.iload_n 1, 1) := by decide +kernel
theorem dX3_earlierSentOf_19 : decode cX3_earlierSentOf 19 = .ok (.if_icmp .ne 23, 3) := by decide +kernel
theorem dX3_earlierSentOf_22 : decode cX3_earlierSentOf 22 = .ok (.iload_n 3, 1) := by decide +kernel
theorem dX3_earlierSentOf_23 : decode cX3_earlierSentOf 23 = .ok (.iconst (-1), 1) := by decide +kernel
theorem dX3_earlierSentOf_24 : decode cX3_earlierSentOf 24 = .ok (.if_icmp .eq 12, 3) := by decide +kernel
theorem dX3_earlierSentOf_27 : decode cX3_earlierSentOf 27 = .ok (.aload 4, 2) := by decide +kernel
theorem dX3_earlierSentOf_29 : decode cX3_earlierSentOf 29 = .ok (.getfield 42, 3) := by decide +kernel
theorem dX3_earlierSentOf_32 : decode cX3_earlierSentOf 32 = .ok (.iload_n 3, 1) := by decide +kernel
theorem dX3_earlierSentOf_33 : decode cX3_earlierSentOf 33 = .ok (.if_icmp .ge 9, 3) := by decide +kernel
theorem dX3_earlierSentOf_36 : decode cX3_earlierSentOf 36 = .ok (.aload 4, 2) := by decide +kernel
theorem dX3_earlierSentOf_38 : decode cX3_earlierSentOf 38 = .ok (.getfield 42, 3) := by decide +kernel
theorem dX3_earlierSentOf_41 : decode cX3_earlierSentOf 41 = .ok (.istore_n 3, 1) := by decide +kernel
theorem dX3_earlierSentOf_42 : decode cX3_earlierSentOf 42 = .ok (.aload 4, 2) := by decide +kernel
theorem dX3_earlierSentOf_44 : decode cX3_earlierSentOf 44 = .ok (.getfield 9, 3) := by decide +kernel
theorem dX3_earlierSentOf_47 : decode cX3_earlierSentOf 47 = .ok (.astore 4, 2) := by decide +kernel
theorem dX3_earlierSentOf_49 : decode cX3_earlierSentOf 49 = .ok (.goto (-41), 3) := by decide +kernel
theorem dX3_earlierSentOf_52 : decode cX3_earlierSentOf 52 = .ok (.iload_n 3, 1) := by decide +kernel
theorem dX3_earlierSentOf_53 : decode cX3_earlierSentOf 53 = .ok (.ireturn, 1) := by decide +kernel
theorem dX4_init_0 : decode cX4_init 0 = .ok (.aload_n 0, 1) := by decide +kernel
theorem dX4_init_1 : decode cX4_init 1 = .ok (.invokespecial 3, 3) := by decide +kernel
theorem dX4_init_4 : decode cX4_init 4 = .ok (.aload_n 0, 1) := by decide +kernel
theorem dX4_init_5 : decode cX4_init 5 = .ok (.new 9, 3) := by decide +kernel
theorem dX4_init_8 : decode cX4_init 8 = .ok (.dup, 1) := by decide +kernel
theorem dX4_init_9 : decode cX4_init 9 = .ok (.invokespecial 11, 3) := by decide +kernel
theorem dX4_init_12 : decode cX4_init 12 = .ok (.putfield 12, 3) := by decide +kernel
theorem dX4_init_15 : decode cX4_init 15 = .ok (.aload_n 0, 1) := by decide +kernel
theorem dX4_init_16 : decode cX4_init 16 = .ok (.new 9, 3) := by decide +kernel
theorem dX4_init_19 : decode cX4_init 19 = .ok (.dup, 1) := by decide +kernel
theorem dX4_init_20 : decode cX4_init 20 = .ok (.invokespecial 11, 3) := by decide +kernel
theorem dX4_init_23 : decode cX4_init 23 = .ok (.putfield 18, 3) := by decide +kernel
theorem dX4_init_26 : decode cX4_init 26 = .ok (.aload_n 0, 1) := by decide +kernel
theorem dX4_init_27 : decode cX4_init 27 = .ok (.bipush 6, 2) := by decide +kernel
theorem dX4_init_29 : decode cX4_init 29 = .ok (.newarray .int, 2) := by decide +kernel
theorem dX4_init_31 : decode cX4_init 31 = .ok (.putfield 21, 3) := by decide +kernel
theorem dX4_init_34 : decode cX4_init 34 = .ok (.aload_n 0, 1) := by decide +kernel
theorem dX4_init_35 : decode cX4_init 35 = .ok (.bipush 6, 2) := by decide +kernel
theorem dX4_init_37 : decode cX4_init 37 = .ok (.newarray .int, 2) := by decide +kernel
theorem dX4_init_39 : decode cX4_init 39 = .ok (.putfield 25, 3) := by decide +kernel
theorem dX4_init_42 : decode cX4_init 42 = .ok (.aload_n 0, 1) := by decide +kernel
theorem dX4_init_43 : decode cX4_init 43 = .ok (.bipush 6, 2) := by decide +kernel
theorem dX4_init_45 : decode cX4_init 45 = .ok (.newarray .int, 2) := by decide +kernel
theorem dX4_init_47 : decode cX4_init 47 = .ok (.putfield 28, 3) := by decide +kernel
theorem dX4_init_50 : decode cX4_init 50 = .ok (.aload_n 0, 1) := by decide +kernel
theorem dX4_init_51 : decode cX4_init 51 = .ok (.new 31, 3) := by decide +kernel
theorem dX4_init_54 : decode cX4_init 54 = .ok (.dup, 1) := by decide +kernel
theorem dX4_init_55 : decode cX4_init 55 = .ok (.invokespecial 33, 3) := by decide +kernel
theorem dX4_init_58 : decode cX4_init 58 = .ok (.putfield 34, 3) := by decide +kernel
theorem dX4_init_61 : decode cX4_init 61 = .ok (.return_, 1) := by decide +kernel
theorem dX4_allows_0 : decode cX4_allows 0 = .ok (.iload_n 0, 1) := by decide +kernel
theorem dX4_allows_1 : decode cX4_allows 1 = .ok (.tableswitch 78 0 2 #[27, 44, 61], 27) := by decide +kernel
theorem dX4_allows_28 : decode cX4_allows 28 = .ok (.iload_n 1, 1) := by decide +kernel
theorem dX4_allows_29 : decode cX4_allows 29 = .ok (.iconst 1, 1) := by decide +kernel
theorem dX4_allows_30 : decode cX4_allows 30 = .ok (.if_icmp .lt 13, 3) := by decide +kernel
theorem dX4_allows_33 : decode cX4_allows 33 = .ok (.iload_n 1, 1) := by decide +kernel
theorem dX4_allows_34 : decode cX4_allows 34 = .ok (.bipush 9, 2) := by decide +kernel
theorem dX4_allows_36 : decode cX4_allows 36 = .ok (.if_icmp .gt 7, 3) := by decide +kernel
theorem dX4_allows_39 : decode cX4_allows 39 = .ok (.iconst 1, 1) := by decide +kernel
theorem dX4_allows_40 : decode cX4_allows 40 = .ok (.goto 4, 3) := by decide +kernel
theorem dX4_allows_43 : decode cX4_allows 43 = .ok (.iconst 0, 1) := by decide +kernel
theorem dX4_allows_44 : decode cX4_allows 44 = .ok (.ireturn, 1) := by decide +kernel
theorem dX4_allows_45 : decode cX4_allows 45 = .ok (.iload_n 1, 1) := by decide +kernel
theorem dX4_allows_46 : decode cX4_allows 46 = .ok (.iconst 1, 1) := by decide +kernel
theorem dX4_allows_47 : decode cX4_allows 47 = .ok (.if_icmp .lt 13, 3) := by decide +kernel
theorem dX4_allows_50 : decode cX4_allows 50 = .ok (.iload_n 1, 1) := by decide +kernel
theorem dX4_allows_51 : decode cX4_allows 51 = .ok (.bipush 60, 2) := by decide +kernel
theorem dX4_allows_53 : decode cX4_allows 53 = .ok (.if_icmp .gt 7, 3) := by decide +kernel
theorem dX4_allows_56 : decode cX4_allows 56 = .ok (.iconst 1, 1) := by decide +kernel
theorem dX4_allows_57 : decode cX4_allows 57 = .ok (.goto 4, 3) := by decide +kernel
theorem dX4_allows_60 : decode cX4_allows 60 = .ok (.iconst 0, 1) := by decide +kernel
theorem dX4_allows_61 : decode cX4_allows 61 = .ok (.ireturn, 1) := by decide +kernel
theorem dX4_allows_62 : decode cX4_allows 62 = .ok (.iload_n 1, 1) := by decide +kernel
theorem dX4_allows_63 : decode cX4_allows 63 = .ok (.iconst 2, 1) := by decide +kernel
theorem dX4_allows_64 : decode cX4_allows 64 = .ok (.if_icmp .lt 13, 3) := by decide +kernel
theorem dX4_allows_67 : decode cX4_allows 67 = .ok (.iload_n 1, 1) := by decide +kernel
theorem dX4_allows_68 : decode cX4_allows 68 = .ok (.bipush 30, 2) := by decide +kernel
theorem dX4_allows_70 : decode cX4_allows 70 = .ok (.if_icmp .gt 7, 3) := by decide +kernel
theorem dX4_allows_73 : decode cX4_allows 73 = .ok (.iconst 1, 1) := by decide +kernel
theorem dX4_allows_74 : decode cX4_allows 74 = .ok (.goto 4, 3) := by decide +kernel
theorem dX4_allows_77 : decode cX4_allows 77 = .ok (.iconst 0, 1) := by decide +kernel
theorem dX4_allows_78 : decode cX4_allows 78 = .ok (.ireturn, 1) := by decide +kernel
theorem dX4_allows_79 : decode cX4_allows 79 = .ok (.iconst 0, 1) := by decide +kernel
theorem dX4_allows_80 : decode cX4_allows 80 = .ok (.ireturn, 1) := by decide +kernel
theorem dX4_setting_0 : decode cX4_setting 0 = .ok (.iload_n 1, 1) := by decide +kernel
theorem dX4_setting_1 : decode cX4_setting 1 = .ok (.ifCond .ne 8, 3) := by decide +kernel
theorem dX4_setting_4 : decode cX4_setting 4 = .ok (.aload_n 0, 1) := by decide +kernel
theorem dX4_setting_5 : decode cX4_setting 5 = .ok (.getfield 38, 3) := by decide +kernel
theorem dX4_setting_8 : decode cX4_setting 8 = .ok (.ireturn, 1) := by decide +kernel
theorem dX4_setting_9 : decode cX4_setting 9 = .ok (.iload_n 1, 1) := by decide +kernel
theorem dX4_setting_10 : decode cX4_setting 10 = .ok (.iconst 1, 1) := by decide +kernel
theorem dX4_setting_11 : decode cX4_setting 11 = .ok (.if_icmp .ne 10, 3) := by decide +kernel
theorem dX4_setting_14 : decode cX4_setting 14 = .ok (.aload_n 0, 1) := by decide +kernel
theorem dX4_setting_15 : decode cX4_setting 15 = .ok (.getfield 42, 3) := by decide +kernel
theorem dX4_setting_18 : decode cX4_setting 18 = .ok (.goto 7, 3) := by decide +kernel
theorem dX4_setting_21 : decode cX4_setting 21 = .ok (.aload_n 0, 1) := by decide +kernel
theorem dX4_setting_22 : decode cX4_setting 22 = .ok (.getfield 45, 3) := by decide +kernel
theorem dX4_setting_25 : decode cX4_setting 25 = .ok (.ireturn, 1) := by decide +kernel
theorem dX4_change_0 : decode cX4_change 0 = .ok (.iload_n 1, 1) := by decide +kernel
theorem dX4_change_1 : decode cX4_change 1 = .ok (.ifCond .ne 11, 3) := by decide +kernel
theorem dX4_change_4 : decode cX4_change 4 = .ok (.aload_n 0, 1) := by decide +kernel
theorem dX4_change_5 : decode cX4_change 5 = .ok (.iload_n 2, 1) := by decide +kernel
theorem dX4_change_6 : decode cX4_change 6 = .ok (.putfield 38, 3) := by decide +kernel
theorem dX4_change_9 : decode cX4_change 9 = .ok (.goto 21, 3) := by decide +kernel
theorem dX4_change_12 : decode cX4_change 12 = .ok (.iload_n 1, 1) := by decide +kernel
theorem dX4_change_13 : decode cX4_change 13 = .ok (.iconst 1, 1) := by decide +kernel
theorem dX4_change_14 : decode cX4_change 14 = .ok (.if_icmp .ne 11, 3) := by decide +kernel
theorem dX4_change_17 : decode cX4_change 17 = .ok (.aload_n 0, 1) := by decide +kernel
theorem dX4_change_18 : decode cX4_change 18 = .ok (.iload_n 2, 1) := by decide +kernel
theorem dX4_change_19 : decode cX4_change 19 = .ok (.putfield 42, 3) := by decide +kernel
theorem dX4_change_22 : decode cX4_change 22 = .ok (.goto 8, 3) := by decide +kernel
theorem dX4_change_25 : decode cX4_change 25 = .ok (.aload_n 0, 1) := by decide +kernel
theorem dX4_change_26 : decode cX4_change 26 = .ok (.iload_n 2, 1) := by decide +kernel
theorem dX4_change_27 : decode cX4_change 27 = .ok (.putfield 45, 3) := by decide +kernel
theorem dX4_change_30 : decode cX4_change 30 = .ok (.return_, 1) := by decide +kernel
theorem dX4_begin_0 : decode cX4_begin 0 = .ok (.aload_n 0, 1) := by decide +kernel
theorem dX4_begin_1 : decode cX4_begin 1 = .ok (.getfield 34, 3) := by decide +kernel
theorem dX4_begin_4 : decode cX4_begin 4 = .ok (.invokevirtual 48, 3) := by decide +kernel
theorem dX4_begin_7 : decode cX4_begin 7 = .ok (.aload_n 0, 1) := by decide +kernel
theorem dX4_begin_8 : decode cX4_begin 8 = .ok (.iconst 0, 1) := by decide +kernel
theorem dX4_begin_9 : decode cX4_begin 9 = .ok (.putfield 51, 3) := by decide +kernel
theorem dX4_begin_12 : decode cX4_begin 12 = .ok (.aload_n 0, 1) := by decide +kernel
theorem dX4_begin_13 : decode cX4_begin 13 = .ok (.iconst 0, 1) := by decide +kernel
theorem dX4_begin_14 : decode cX4_begin 14 = .ok (.putfield 54, 3) := by decide +kernel
theorem dX4_begin_17 : decode cX4_begin 17 = .ok (.aload_n 0, 1) := by decide +kernel
theorem dX4_begin_18 : decode cX4_begin 18 = .ok (.iconst 0, 1) := by decide +kernel
theorem dX4_begin_19 : decode cX4_begin 19 = .ok (.putfield 57, 3) := by decide +kernel
theorem dX4_begin_22 : decode cX4_begin 22 = .ok (.aload_n 0, 1) := by decide +kernel
theorem dX4_begin_23 : decode cX4_begin 23 = .ok (.invokevirtual 60, 3) := by decide +kernel
theorem dX4_begin_26 : decode cX4_begin 26 = .ok (.return_, 1) := by decide +kernel
theorem dX4_copyFrom_0 : decode cX4_copyFrom 0 = .ok (.aload_n 0, 1) := by decide +kernel
theorem dX4_copyFrom_1 : decode cX4_copyFrom 1 = .ok (.aload_n 1, 1) := by decide +kernel
theorem dX4_copyFrom_2 : decode cX4_copyFrom 2 = .ok (.getfield 38, 3) := by decide +kernel
theorem dX4_copyFrom_5 : decode cX4_copyFrom 5 = .ok (.putfield 38, 3) := by decide +kernel
theorem dX4_copyFrom_8 : decode cX4_copyFrom 8 = .ok (.aload_n 0, 1) := by decide +kernel
theorem dX4_copyFrom_9 : decode cX4_copyFrom 9 = .ok (.aload_n 1, 1) := by decide +kernel
theorem dX4_copyFrom_10 : decode cX4_copyFrom 10 = .ok (.getfield 63, 3) := by decide +kernel
theorem dX4_copyFrom_13 : decode cX4_copyFrom 13 = .ok (.putfield 63, 3) := by decide +kernel
theorem dX4_copyFrom_16 : decode cX4_copyFrom 16 = .ok (.aload_n 0, 1) := by decide +kernel
theorem dX4_copyFrom_17 : decode cX4_copyFrom 17 = .ok (.aload_n 1, 1) := by decide +kernel
theorem dX4_copyFrom_18 : decode cX4_copyFrom 18 = .ok (.getfield 42, 3) := by decide +kernel
theorem dX4_copyFrom_21 : decode cX4_copyFrom 21 = .ok (.putfield 42, 3) := by decide +kernel
theorem dX4_copyFrom_24 : decode cX4_copyFrom 24 = .ok (.aload_n 0, 1) := by decide +kernel
theorem dX4_copyFrom_25 : decode cX4_copyFrom 25 = .ok (.aload_n 1, 1) := by decide +kernel
theorem dX4_copyFrom_26 : decode cX4_copyFrom 26 = .ok (.getfield 45, 3) := by decide +kernel
theorem dX4_copyFrom_29 : decode cX4_copyFrom 29 = .ok (.putfield 45, 3) := by decide +kernel
theorem dX4_copyFrom_32 : decode cX4_copyFrom 32 = .ok (.aload_n 0, 1) := by decide +kernel
theorem dX4_copyFrom_33 : decode cX4_copyFrom 33 = .ok (.aload_n 1, 1) := by decide +kernel
theorem dX4_copyFrom_34 : decode cX4_copyFrom 34 = .ok (.getfield 66, 3) := by decide +kernel
theorem dX4_copyFrom_37 : decode cX4_copyFrom 37 = .ok (.putfield 66, 3) := by decide +kernel
theorem dX4_copyFrom_40 : decode cX4_copyFrom 40 = .ok (.aload_n 0, 1) := by decide +kernel
theorem dX4_copyFrom_41 : decode cX4_copyFrom 41 = .ok (.aload_n 1, 1) := by decide +kernel
theorem dX4_copyFrom_42 : decode cX4_copyFrom 42 = .ok (.getfield 69, 3) := by decide +kernel
theorem dX4_copyFrom_45 : decode cX4_copyFrom 45 = .ok (.putfield 69, 3) := by decide +kernel
theorem dX4_copyFrom_48 : decode cX4_copyFrom 48 = .ok (.aload_n 0, 1) := by decide +kernel
theorem dX4_copyFrom_49 : decode cX4_copyFrom 49 = .ok (.aload_n 1, 1) := by decide +kernel
theorem dX4_copyFrom_50 : decode cX4_copyFrom 50 = .ok (.getfield 72, 3) := by decide +kernel
theorem dX4_copyFrom_53 : decode cX4_copyFrom 53 = .ok (.putfield 72, 3) := by decide +kernel
theorem dX4_copyFrom_56 : decode cX4_copyFrom 56 = .ok (.aload_n 1, 1) := by decide +kernel
theorem dX4_copyFrom_57 : decode cX4_copyFrom 57 = .ok (.getfield 21, 3) := by decide +kernel
theorem dX4_copyFrom_60 : decode cX4_copyFrom 60 = .ok (.iconst 0, 1) := by decide +kernel
theorem dX4_copyFrom_61 : decode cX4_copyFrom 61 = .ok (.aload_n 0, 1) := by decide +kernel
theorem dX4_copyFrom_62 : decode cX4_copyFrom 62 = .ok (.getfield 21, 3) := by decide +kernel
theorem dX4_copyFrom_65 : decode cX4_copyFrom 65 = .ok (.iconst 0, 1) := by decide +kernel
theorem dX4_copyFrom_66 : decode cX4_copyFrom 66 = .ok (.bipush 6, 2) := by decide +kernel
theorem dX4_copyFrom_68 : decode cX4_copyFrom 68 = .ok (.invokestatic 76, 3) := by decide +kernel
theorem dX4_copyFrom_71 : decode cX4_copyFrom 71 = .ok (.aload_n 1, 1) := by decide +kernel
theorem dX4_copyFrom_72 : decode cX4_copyFrom 72 = .ok (.getfield 25, 3) := by decide +kernel
theorem dX4_copyFrom_75 : decode cX4_copyFrom 75 = .ok (.iconst 0, 1) := by decide +kernel
theorem dX4_copyFrom_76 : decode cX4_copyFrom 76 = .ok (.aload_n 0, 1) := by decide +kernel
theorem dX4_copyFrom_77 : decode cX4_copyFrom 77 = .ok (.getfield 25, 3) := by decide +kernel
theorem dX4_copyFrom_80 : decode cX4_copyFrom 80 = .ok (.iconst 0, 1) := by decide +kernel
theorem dX4_copyFrom_81 : decode cX4_copyFrom 81 = .ok (.bipush 6, 2) := by decide +kernel
theorem dX4_copyFrom_83 : decode cX4_copyFrom 83 = .ok (.invokestatic 76, 3) := by decide +kernel
theorem dX4_copyFrom_86 : decode cX4_copyFrom 86 = .ok (.aload_n 1, 1) := by decide +kernel
theorem dX4_copyFrom_87 : decode cX4_copyFrom 87 = .ok (.getfield 28, 3) := by decide +kernel
theorem dX4_copyFrom_90 : decode cX4_copyFrom 90 = .ok (.iconst 0, 1) := by decide +kernel
theorem dX4_copyFrom_91 : decode cX4_copyFrom 91 = .ok (.aload_n 0, 1) := by decide +kernel
theorem dX4_copyFrom_92 : decode cX4_copyFrom 92 = .ok (.getfield 28, 3) := by decide +kernel
theorem dX4_copyFrom_95 : decode cX4_copyFrom 95 = .ok (.iconst 0, 1) := by decide +kernel
theorem dX4_copyFrom_96 : decode cX4_copyFrom 96 = .ok (.bipush 6, 2) := by decide +kernel
theorem dX4_copyFrom_98 : decode cX4_copyFrom 98 = .ok (.invokestatic 76, 3) := by decide +kernel
theorem dX4_copyFrom_101 : decode cX4_copyFrom 101 = .ok (.aload_n 0, 1) := by decide +kernel
theorem dX4_copyFrom_102 : decode cX4_copyFrom 102 = .ok (.getfield 34, 3) := by decide +kernel
theorem dX4_copyFrom_105 : decode cX4_copyFrom 105 = .ok (.aload_n 1, 1) := by decide +kernel
theorem dX4_copyFrom_106 : decode cX4_copyFrom 106 = .ok (.getfield 34, 3) := by decide +kernel
theorem dX4_copyFrom_109 : decode cX4_copyFrom 109 = .ok (.invokevirtual 82, 3) := by decide +kernel
theorem dX4_copyFrom_112 : decode cX4_copyFrom 112 = .ok (.aload_n 0, 1) := by decide +kernel
theorem dX4_copyFrom_113 : decode cX4_copyFrom 113 = .ok (.aload_n 1, 1) := by decide +kernel
theorem dX4_copyFrom_114 : decode cX4_copyFrom 114 = .ok (.getfield 51, 3) := by decide +kernel
theorem dX4_copyFrom_117 : decode cX4_copyFrom 117 = .ok (.putfield 51, 3) := by decide +kernel
theorem dX4_copyFrom_120 : decode cX4_copyFrom 120 = .ok (.aload_n 0, 1) := by decide +kernel
theorem dX4_copyFrom_121 : decode cX4_copyFrom 121 = .ok (.aload_n 1, 1) := by decide +kernel
theorem dX4_copyFrom_122 : decode cX4_copyFrom 122 = .ok (.getfield 54, 3) := by decide +kernel
theorem dX4_copyFrom_125 : decode cX4_copyFrom 125 = .ok (.putfield 54, 3) := by decide +kernel
theorem dX4_copyFrom_128 : decode cX4_copyFrom 128 = .ok (.aload_n 0, 1) := by decide +kernel
theorem dX4_copyFrom_129 : decode cX4_copyFrom 129 = .ok (.aload_n 1, 1) := by decide +kernel
theorem dX4_copyFrom_130 : decode cX4_copyFrom 130 = .ok (.getfield 86, 3) := by decide +kernel
theorem dX4_copyFrom_133 : decode cX4_copyFrom 133 = .ok (.putfield 86, 3) := by decide +kernel
theorem dX4_copyFrom_136 : decode cX4_copyFrom 136 = .ok (.aload_n 0, 1) := by decide +kernel
theorem dX4_copyFrom_137 : decode cX4_copyFrom 137 = .ok (.aload_n 1, 1) := by decide +kernel
theorem dX4_copyFrom_138 : decode cX4_copyFrom 138 = .ok (.getfield 57, 3) := by decide +kernel
theorem dX4_copyFrom_141 : decode cX4_copyFrom 141 = .ok (.putfield 57, 3) := by decide +kernel
theorem dX4_copyFrom_144 : decode cX4_copyFrom 144 = .ok (.return_, 1) := by decide +kernel
theorem dX4_hasCaught_0 : decode cX4_hasCaught 0 = .ok (.aload_n 0, 1) := by decide +kernel
theorem dX4_hasCaught_1 : decode cX4_hasCaught 1 = .ok (.getfield 51, 3) := by decide +kernel
theorem dX4_hasCaught_4 : decode cX4_hasCaught 4 = .ok (.iload_n 1, 1) := by decide +kernel
theorem dX4_hasCaught_5 : decode cX4_hasCaught 5 = .ok (.ishr, 1) := by decide +kernel
theorem dX4_hasCaught_6 : decode cX4_hasCaught 6 = .ok (.iconst 1, 1) := by decide +kernel
theorem dX4_hasCaught_7 : decode cX4_hasCaught 7 = .ok (.iand, 1) := by decide +kernel
theorem dX4_hasCaught_8 : decode cX4_hasCaught 8 = .ok (.ifCond .eq 7, 3) := by decide +kernel
theorem dX4_hasCaught_11 : decode cX4_hasCaught 11 = .ok (.iconst 1, 1) := by decide +kernel
theorem dX4_hasCaught_12 : decode cX4_hasCaught 12 = .ok (.goto 4, 3) := by decide +kernel
theorem dX4_hasCaught_15 : decode cX4_hasCaught 15 = .ok (.iconst 0, 1) := by decide +kernel
theorem dX4_hasCaught_16 : decode cX4_hasCaught 16 = .ok (.ireturn, 1) := by decide +kernel
theorem dX4_letsIn_0 : decode cX4_letsIn 0 = .ok (.iload_n 1, 1) := by decide +kernel
theorem dX4_letsIn_1 : decode cX4_letsIn 1 = .ok (.ifCond .lt 26, 3) := by decide +kernel
theorem dX4_letsIn_4 : decode cX4_letsIn 4 = .ok (.iload_n 1, 1) := by decide +kernel
theorem dX4_letsIn_5 : decode cX4_letsIn 5 = .ok (.aload_n 0, 1) := by decide +kernel
theorem dX4_letsIn_6 : decode cX4_letsIn 6 = .ok (.getfield 21, 3) := by decide +kernel
theorem dX4_letsIn_9 : decode cX4_letsIn 9 = .ok (.arraylength, 1) := by decide +kernel
theorem dX4_letsIn_10 : decode cX4_letsIn 10 = .ok (.if_icmp .ge 17, 3) := by decide +kernel
theorem dX4_letsIn_13 : decode cX4_letsIn 13 = .ok (.aload_n 0, 1) := by decide +kernel
theorem dX4_letsIn_14 : decode cX4_letsIn 14 = .ok (.getfield 12, 3) := by decide +kernel
theorem dX4_letsIn_17 : decode cX4_letsIn 17 = .ok (.getfield 89, 3) := by decide +kernel
theorem dX4_letsIn_20 : decode cX4_letsIn 20 = .ok (.aload_n 0, 1) := by decide +kernel
theorem dX4_letsIn_21 : decode cX4_letsIn 21 = .ok (.getfield 42, 3) := by decide +kernel
theorem dX4_letsIn_24 : decode cX4_letsIn 24 = .ok (.if_icmp .lt 5, 3) := by decide +kernel
theorem dX4_letsIn_27 : decode cX4_letsIn 27 = .ok (.iconst 0, 1) := by decide +kernel
theorem dX4_letsIn_28 : decode cX4_letsIn 28 = .ok (.ireturn, 1) := by decide +kernel
theorem dX4_letsIn_29 : decode cX4_letsIn 29 = .ok (.aload_n 0, 1) := by decide +kernel
theorem dX4_letsIn_30 : decode cX4_letsIn 30 = .ok (.iload_n 1, 1) := by decide +kernel
theorem dX4_letsIn_31 : decode cX4_letsIn 31 = .ok (.invokevirtual 92, 3) := by decide +kernel
theorem dX4_letsIn_34 : decode cX4_letsIn 34 = .ok (.ifCond .eq 16, 3) := by decide +kernel
theorem dX4_letsIn_37 : decode cX4_letsIn 37 = .ok (.aload_n 0, 1) := by decide +kernel
theorem dX4_letsIn_38 : decode cX4_letsIn 38 = .ok (.getfield 21, 3) := by decide +kernel
theorem dX4_letsIn_41 : decode cX4_letsIn 41 = .ok (.iload_n 1, 1) := by decide +kernel
theorem dX4_letsIn_42 : decode cX4_letsIn 42 = .ok (.iaload, 1) := by decide +kernel
theorem dX4_letsIn_43 : decode cX4_letsIn 43 = .ok (.aload_n 0, 1) := by decide +kernel
theorem dX4_letsIn_44 : decode cX4_letsIn 44 = .ok (.getfield 54, 3) := by decide +kernel
theorem dX4_letsIn_47 : decode cX4_letsIn 47 = .ok (.if_icmp .ge 7, 3) := by decide +kernel
theorem dX4_letsIn_50 : decode cX4_letsIn 50 = .ok (.iconst 1, 1) := by decide +kernel
theorem dX4_letsIn_51 : decode cX4_letsIn 51 = .ok (.goto 4, 3) := by decide +kernel
theorem dX4_letsIn_54 : decode cX4_letsIn 54 = .ok (.iconst 0, 1) := by decide +kernel
theorem dX4_letsIn_55 : decode cX4_letsIn 55 = .ok (.ireturn, 1) := by decide +kernel
theorem dX4_takeIn_0 : decode cX4_takeIn 0 = .ok (.aload_n 0, 1) := by decide +kernel
theorem dX4_takeIn_1 : decode cX4_takeIn 1 = .ok (.getfield 12, 3) := by decide +kernel
theorem dX4_takeIn_4 : decode cX4_takeIn 4 = .ok (.aload_n 1, 1) := by decide +kernel
theorem dX4_takeIn_5 : decode cX4_takeIn 5 = .ok (.invokevirtual 96, 3) := by decide +kernel
theorem dX4_takeIn_8 : decode cX4_takeIn 8 = .ok (.aload_n 0, 1) := by decide +kernel
theorem dX4_takeIn_9 : decode cX4_takeIn 9 = .ok (.dup, 1) := by decide +kernel
theorem dX4_takeIn_10 : decode cX4_takeIn 10 = .ok (.getfield 66, 3) := by decide +kernel
theorem dX4_takeIn_13 : decode cX4_takeIn 13 = .ok (.iconst 1, 1) := by decide +kernel
theorem dX4_takeIn_14 : decode cX4_takeIn 14 = .ok (.iadd, 1) := by decide +kernel
theorem dX4_takeIn_15 : decode cX4_takeIn 15 = .ok (.putfield 66, 3) := by decide +kernel
theorem dX4_takeIn_18 : decode cX4_takeIn 18 = .ok (.aload_n 0, 1) := by decide +kernel
theorem dX4_takeIn_19 : decode cX4_takeIn 19 = .ok (.dup, 1) := by decide +kernel
theorem dX4_takeIn_20 : decode cX4_takeIn 20 = .ok (.getfield 72, 3) := by decide +kernel
theorem dX4_takeIn_23 : decode cX4_takeIn 23 = .ok (.aload_n 1, 1) := by decide +kernel
theorem dX4_takeIn_24 : decode cX4_takeIn 24 = .ok (.getfield 100, 3) := by decide +kernel
theorem dX4_takeIn_27 : decode cX4_takeIn 27 = .ok (.ladd, 1) := by decide +kernel
theorem dX4_takeIn_28 : decode cX4_takeIn 28 = .ok (.putfield 72, 3) := by decide +kernel
theorem dX4_takeIn_31 : decode cX4_takeIn 31 = .ok (.aload_n 1, 1) := by decide +kernel
theorem dX4_takeIn_32 : decode cX4_takeIn 32 = .ok (.getfield 105, 3) := by decide +kernel
theorem dX4_takeIn_35 : decode cX4_takeIn 35 = .ok (.istore_n 2, 1) := by decide +kernel
theorem dX4_takeIn_36 : decode cX4_takeIn 36 = .ok (.iload_n 2, 1) := by decide +kernel
theorem dX4_takeIn_37 : decode cX4_takeIn 37 = .ok (.ifCond .lt 42, 3) := by decide +kernel
theorem dX4_takeIn_40 : decode cX4_takeIn 40 = .ok (.iload_n 2, 1) := by decide +kernel
theorem dX4_takeIn_41 : decode cX4_takeIn 41 = .ok (.aload_n 0, 1) := by decide +kernel
theorem dX4_takeIn_42 : decode cX4_takeIn 42 = .ok (.getfield 21, 3) := by decide +kernel
theorem dX4_takeIn_45 : decode cX4_takeIn 45 = .ok (.arraylength, 1) := by decide +kernel
theorem dX4_takeIn_46 : decode cX4_takeIn 46 = .ok (.if_icmp .ge 33, 3) := by decide +kernel
theorem dX4_takeIn_49 : decode cX4_takeIn 49 = .ok (.aload_n 0, 1) := by decide +kernel
theorem dX4_takeIn_50 : decode cX4_takeIn 50 = .ok (.getfield 21, 3) := by decide +kernel
theorem dX4_takeIn_53 : decode cX4_takeIn 53 = .ok (.iload_n 2, 1) := by decide +kernel
theorem dX4_takeIn_54 : decode cX4_takeIn 54 = .ok (.dup2, 1) := by decide +kernel
theorem dX4_takeIn_55 : decode cX4_takeIn 55 = .ok (.iaload, 1) := by decide +kernel
theorem dX4_takeIn_56 : decode cX4_takeIn 56 = .ok (.iconst 1, 1) := by decide +kernel
theorem dX4_takeIn_57 : decode cX4_takeIn 57 = .ok (.iadd, 1) := by decide +kernel
theorem dX4_takeIn_58 : decode cX4_takeIn 58 = .ok (.iastore, 1) := by decide +kernel
theorem dX4_takeIn_59 : decode cX4_takeIn 59 = .ok (.aload_n 0, 1) := by decide +kernel
theorem dX4_takeIn_60 : decode cX4_takeIn 60 = .ok (.getfield 25, 3) := by decide +kernel
theorem dX4_takeIn_63 : decode cX4_takeIn 63 = .ok (.iload_n 2, 1) := by decide +kernel
theorem dX4_takeIn_64 : decode cX4_takeIn 64 = .ok (.aload_n 1, 1) := by decide +kernel
theorem dX4_takeIn_65 : decode cX4_takeIn 65 = .ok (.getfield 108, 3) := by decide +kernel
theorem dX4_takeIn_68 : decode cX4_takeIn 68 = .ok (.iastore, 1) := by decide +kernel
theorem dX4_takeIn_69 : decode cX4_takeIn 69 = .ok (.aload_n 0, 1) := by decide +kernel
theorem dX4_takeIn_70 : decode cX4_takeIn 70 = .ok (.getfield 28, 3) := by decide +kernel
theorem dX4_takeIn_73 : decode cX4_takeIn 73 = .ok (.iload_n 2, 1) := by decide +kernel
theorem dX4_takeIn_74 : decode cX4_takeIn 74 = .ok (.aload_n 1, 1) := by decide +kernel
theorem dX4_takeIn_75 : decode cX4_takeIn 75 = .ok (.getfield 111, 3) := by decide +kernel
theorem dX4_takeIn_78 : decode cX4_takeIn 78 = .ok (.iastore, 1) := by decide +kernel
theorem dX4_takeIn_79 : decode cX4_takeIn 79 = .ok (.return_, 1) := by decide +kernel
theorem dX4_serveRow_0 : decode cX4_serveRow 0 = .ok (.iconst 0, 1) := by decide +kernel
theorem dX4_serveRow_1 : decode cX4_serveRow 1 = .ok (.istore_n 2, 1) := by decide +kernel
theorem dX4_serveRow_2 : decode cX4_serveRow 2 = .ok (.iload_n 2, 1) := by decide +kernel
theorem dX4_serveRow_3 : decode cX4_serveRow 3 = .ok (.aload_n 0, 1) := by decide +kernel
theorem dX4_serveRow_4 : decode cX4_serveRow 4 = .ok (.getfield 38, 3) := by decide +kernel
theorem dX4_serveRow_7 : decode cX4_serveRow 7 = .ok (.if_icmp .ge 84, 3) := by decide +kernel
theorem dX4_serveRow_10 : decode cX4_serveRow 10 = .ok (.aload_n 0, 1) := by decide +kernel
theorem dX4_serveRow_11 : decode cX4_serveRow 11 = .ok (.getfield 12, 3) := by decide +kernel
theorem dX4_serveRow_14 : decode cX4_serveRow 14 = .ok (.invokevirtual 114, 3) := by decide +kernel
theorem dX4_serveRow_17 : decode cX4_serveRow 17 = .ok (.astore_n 3, 1) := by decide +kernel
theorem dX4_serveRow_18 : decode cX4_serveRow 18 = .ok (.aload_n 3, 1) := by decide +kernel
theorem dX4_serveRow_19 : decode cX4_serveRow 19 = .ok (.ifnonnull 6, 3) := by decide +kernel
theorem dX4_serveRow_22 : decode cX4_serveRow 22 = .ok (.goto 69, 3) := by decide +kernel
theorem dX4_serveRow_25 : decode cX4_serveRow 25 = .ok (.aload_n 3, 1) := by decide +kernel
theorem dX4_serveRow_26 : decode cX4_serveRow 26 = .ok (.aload_n 3, 1) := by decide +kernel
theorem dX4_serveRow_27 : decode cX4_serveRow 27 = .ok (.getfield 118, 3) := by decide +kernel
theorem dX4_serveRow_30 : decode cX4_serveRow 30 = .ok (.aload_n 0, 1) := by decide +kernel
theorem dX4_serveRow_31 : decode cX4_serveRow 31 = .ok (.getfield 34, 3) := by decide +kernel
theorem dX4_serveRow_34 : decode cX4_serveRow 34 = .ok (.aload_n 3, 1) := by decide +kernel
theorem dX4_serveRow_35 : decode cX4_serveRow 35 = .ok (.getfield 100, 3) := by decide +kernel
theorem dX4_serveRow_38 : decode cX4_serveRow 38 = .ok (.invokevirtual 121, 3) := by decide +kernel
theorem dX4_serveRow_41 : decode cX4_serveRow 41 = .ok (.invokestatic 125, 3) := by decide +kernel
theorem dX4_serveRow_44 : decode cX4_serveRow 44 = .ok (.putfield 118, 3) := by decide +kernel
theorem dX4_serveRow_47 : decode cX4_serveRow 47 = .ok (.aload_n 3, 1) := by decide +kernel
theorem dX4_serveRow_48 : decode cX4_serveRow 48 = .ok (.dup, 1) := by decide +kernel
theorem dX4_serveRow_49 : decode cX4_serveRow 49 = .ok (.getfield 131, 3) := by decide +kernel
theorem dX4_serveRow_52 : decode cX4_serveRow 52 = .ok (.iconst 1, 1) := by decide +kernel
theorem dX4_serveRow_53 : decode cX4_serveRow 53 = .ok (.iadd, 1) := by decide +kernel
theorem dX4_serveRow_54 : decode cX4_serveRow 54 = .ok (.putfield 131, 3) := by decide +kernel
theorem dX4_serveRow_57 : decode cX4_serveRow 57 = .ok (.aload_n 3, 1) := by decide +kernel
theorem dX4_serveRow_58 : decode cX4_serveRow 58 = .ok (.iload_n 1, 1) := by decide +kernel
theorem dX4_serveRow_59 : decode cX4_serveRow 59 = .ok (.aload_n 0, 1) := by decide +kernel
theorem dX4_serveRow_60 : decode cX4_serveRow 60 = .ok (.getfield 63, 3) := by decide +kernel
theorem dX4_serveRow_63 : decode cX4_serveRow 63 = .ok (.iadd, 1) := by decide +kernel
theorem dX4_serveRow_64 : decode cX4_serveRow 64 = .ok (.putfield 134, 3) := by decide +kernel
theorem dX4_serveRow_67 : decode cX4_serveRow 67 = .ok (.aload_n 0, 1) := by decide +kernel
theorem dX4_serveRow_68 : decode cX4_serveRow 68 = .ok (.getfield 18, 3) := by decide +kernel
theorem dX4_serveRow_71 : decode cX4_serveRow 71 = .ok (.aload_n 3, 1) := by decide +kernel
theorem dX4_serveRow_72 : decode cX4_serveRow 72 = .ok (.invokevirtual 96, 3) := by decide +kernel
theorem dX4_serveRow_75 : decode cX4_serveRow 75 = .ok (.aload_n 0, 1) := by decide +kernel
theorem dX4_serveRow_76 : decode cX4_serveRow 76 = .ok (.dup, 1) := by decide +kernel
theorem dX4_serveRow_77 : decode cX4_serveRow 77 = .ok (.getfield 86, 3) := by decide +kernel
theorem dX4_serveRow_80 : decode cX4_serveRow 80 = .ok (.iconst 1, 1) := by decide +kernel
theorem dX4_serveRow_81 : decode cX4_serveRow 81 = .ok (.iadd, 1) := by decide +kernel
theorem dX4_serveRow_82 : decode cX4_serveRow 82 = .ok (.putfield 86, 3) := by decide +kernel
theorem dX4_serveRow_85 : decode cX4_serveRow 85 = .ok (.iinc 2 1, 3) := by decide +kernel
theorem dX4_serveRow_88 : decode cX4_serveRow 88 = .ok (.goto (-86), 3) := by decide +kernel
theorem dX4_serveRow_91 : decode cX4_serveRow 91 = .ok (.aload_n 0, 1) := by decide +kernel
theorem dX4_serveRow_92 : decode cX4_serveRow 92 = .ok (.aload_n 0, 1) := by decide +kernel
theorem dX4_serveRow_93 : decode cX4_serveRow 93 = .ok (.getfield 69, 3) := by decide +kernel
theorem dX4_serveRow_96 : decode cX4_serveRow 96 = .ok (.aload_n 0, 1) := by decide +kernel
theorem dX4_serveRow_97 : decode cX4_serveRow 97 = .ok (.getfield 12, 3) := by decide +kernel
theorem dX4_serveRow_100 : decode cX4_serveRow 100 = .ok (.getfield 89, 3) := by decide +kernel
theorem dX4_serveRow_103 : decode cX4_serveRow 103 = .ok (.invokestatic 125, 3) := by decide +kernel
theorem dX4_serveRow_106 : decode cX4_serveRow 106 = .ok (.putfield 69, 3) := by decide +kernel
theorem dX4_serveRow_109 : decode cX4_serveRow 109 = .ok (.return_, 1) := by decide +kernel
theorem dX4_endsSpanAt_0 : decode cX4_endsSpanAt 0 = .ok (.aload_n 0, 1) := by decide +kernel
theorem dX4_endsSpanAt_1 : decode cX4_endsSpanAt 1 = .ok (.getfield 45, 3) := by decide +kernel
theorem dX4_endsSpanAt_4 : decode cX4_endsSpanAt 4 = .ok (.ifCond .le 16, 3) := by decide +kernel
theorem dX4_endsSpanAt_7 : decode cX4_endsSpanAt 7 = .ok (.iload_n 1, 1) := by decide +kernel
theorem dX4_endsSpanAt_8 : decode cX4_endsSpanAt 8 = .ok (.aload_n 0, 1) := by decide +kernel
theorem dX4_endsSpanAt_9 : decode cX4_endsSpanAt 9 = .ok (.getfield 45, 3) := by decide +kernel
theorem dX4_endsSpanAt_12 : decode cX4_endsSpanAt 12 = .ok (.irem, 1) := by decide +kernel
theorem dX4_endsSpanAt_13 : decode cX4_endsSpanAt 13 = .ok (.ifCond .ne 7, 3) := by decide +kernel
theorem dX4_endsSpanAt_16 : decode cX4_endsSpanAt 16 = .ok (.iconst 1, 1) := by decide +kernel
theorem dX4_endsSpanAt_17 : decode cX4_endsSpanAt 17 = .ok (.goto 4, 3) := by decide +kernel
theorem dX4_endsSpanAt_20 : decode cX4_endsSpanAt 20 = .ok (.iconst 0, 1) := by decide +kernel
theorem dX4_endsSpanAt_21 : decode cX4_endsSpanAt 21 = .ok (.ireturn, 1) := by decide +kernel
theorem dX4_endSpan_0 : decode cX4_endSpan 0 = .ok (.aload_n 0, 1) := by decide +kernel
theorem dX4_endSpan_1 : decode cX4_endSpan 1 = .ok (.getfield 34, 3) := by decide +kernel
theorem dX4_endSpan_4 : decode cX4_endSpan 4 = .ok (.aload_n 0, 1) := by decide +kernel
theorem dX4_endSpan_5 : decode cX4_endSpan 5 = .ok (.getfield 38, 3) := by decide +kernel
theorem dX4_endSpan_8 : decode cX4_endSpan 8 = .ok (.aload_n 0, 1) := by decide +kernel
theorem dX4_endSpan_9 : decode cX4_endSpan 9 = .ok (.getfield 45, 3) := by decide +kernel
theorem dX4_endSpan_12 : decode cX4_endSpan 12 = .ok (.imul, 1) := by decide +kernel
theorem dX4_endSpan_13 : decode cX4_endSpan 13 = .ok (.aload_n 0, 1) := by decide +kernel
theorem dX4_endSpan_14 : decode cX4_endSpan 14 = .ok (.getfield 66, 3) := by decide +kernel
theorem dX4_endSpan_17 : decode cX4_endSpan 17 = .ok (.isub, 1) := by decide +kernel
theorem dX4_endSpan_18 : decode cX4_endSpan 18 = .ok (.i2l, 1) := by decide +kernel
theorem dX4_endSpan_19 : decode cX4_endSpan 19 = .ok (.aload_n 0, 1) := by decide +kernel
theorem dX4_endSpan_20 : decode cX4_endSpan 20 = .ok (.getfield 69, 3) := by decide +kernel
theorem dX4_endSpan_23 : decode cX4_endSpan 23 = .ok (.i2l, 1) := by decide +kernel
theorem dX4_endSpan_24 : decode cX4_endSpan 24 = .ok (.aload_n 0, 1) := by decide +kernel
theorem dX4_endSpan_25 : decode cX4_endSpan 25 = .ok (.getfield 66, 3) := by decide +kernel
theorem dX4_endSpan_28 : decode cX4_endSpan 28 = .ok (.i2l, 1) := by decide +kernel
theorem dX4_endSpan_29 : decode cX4_endSpan 29 = .ok (.aload_n 0, 1) := by decide +kernel
theorem dX4_endSpan_30 : decode cX4_endSpan 30 = .ok (.getfield 72, 3) := by decide +kernel
theorem dX4_endSpan_33 : decode cX4_endSpan 33 = .ok (.invokevirtual 137, 3) := by decide +kernel
theorem dX4_endSpan_36 : decode cX4_endSpan 36 = .ok (.aload_n 0, 1) := by decide +kernel
theorem dX4_endSpan_37 : decode cX4_endSpan 37 = .ok (.iconst 0, 1) := by decide +kernel
theorem dX4_endSpan_38 : decode cX4_endSpan 38 = .ok (.putfield 51, 3) := by decide +kernel
theorem dX4_endSpan_41 : decode cX4_endSpan 41 = .ok (.iconst 0, 1) := by decide +kernel
theorem dX4_endSpan_42 : decode cX4_endSpan 42 = .ok (.istore_n 1, 1) := by decide +kernel
theorem dX4_endSpan_43 : decode cX4_endSpan 43 = .ok (.iconst 0, 1) := by decide +kernel
theorem dX4_endSpan_44 : decode cX4_endSpan 44 = .ok (.istore_n 2, 1) := by decide +kernel
theorem dX4_endSpan_45 : decode cX4_endSpan 45 = .ok (.iload_n 2, 1) := by decide +kernel
theorem dX4_endSpan_46 : decode cX4_endSpan 46 = .ok (.bipush 6, 2) := by decide +kernel
theorem dX4_endSpan_48 : decode cX4_endSpan 48 = .ok (.if_icmp .ge 47, 3) := by decide +kernel
theorem dX4_endSpan_51 : decode cX4_endSpan 51 = .ok (.aload_n 0, 1) := by decide +kernel
theorem dX4_endSpan_52 : decode cX4_endSpan 52 = .ok (.getfield 21, 3) := by decide +kernel
theorem dX4_endSpan_55 : decode cX4_endSpan 55 = .ok (.iload_n 2, 1) := by decide +kernel
theorem dX4_endSpan_56 : decode cX4_endSpan 56 = .ok (.iaload, 1) := by decide +kernel
theorem dX4_endSpan_57 : decode cX4_endSpan 57 = .ok (.ifCond .le 6, 3) := by decide +kernel
theorem dX4_endSpan_60 : decode cX4_endSpan 60 = .ok (.iinc 1 1, 3) := by decide +kernel
theorem dX4_endSpan_63 : decode cX4_endSpan 63 = .ok (.aload_n 0, 1) := by decide +kernel
theorem dX4_endSpan_64 : decode cX4_endSpan 64 = .ok (.getfield 21, 3) := by decide +kernel
theorem dX4_endSpan_67 : decode cX4_endSpan 67 = .ok (.iload_n 2, 1) := by decide +kernel
theorem dX4_endSpan_68 : decode cX4_endSpan 68 = .ok (.iaload, 1) := by decide +kernel
theorem dX4_endSpan_69 : decode cX4_endSpan 69 = .ok (.aload_n 0, 1) := by decide +kernel
theorem dX4_endSpan_70 : decode cX4_endSpan 70 = .ok (.iload_n 2, 1) := by decide +kernel
theorem dX4_endSpan_71 : decode cX4_endSpan 71 = .ok (.invokevirtual 141, 3) := by decide +kernel
theorem dX4_endSpan_74 : decode cX4_endSpan 74 = .ok (.if_icmp .le 15, 3) := by decide +kernel
theorem dX4_endSpan_77 : decode cX4_endSpan 77 = .ok (.aload_n 0, 1) := by decide +kernel
theorem dX4_endSpan_78 : decode cX4_endSpan 78 = .ok (.dup, 1) := by decide +kernel
theorem dX4_endSpan_79 : decode cX4_endSpan 79 = .ok (.getfield 51, 3) := by decide +kernel
theorem dX4_endSpan_82 : decode cX4_endSpan 82 = .ok (.iconst 1, 1) := by decide +kernel
theorem dX4_endSpan_83 : decode cX4_endSpan 83 = .ok (.iload_n 2, 1) := by decide +kernel
theorem dX4_endSpan_84 : decode cX4_endSpan 84 = .ok (.ishl, 1) := by decide +kernel
theorem dX4_endSpan_85 : decode cX4_endSpan 85 = .ok (.ior, 1) := by decide +kernel
theorem dX4_endSpan_86 : decode cX4_endSpan 86 = .ok (.putfield 51, 3) := by decide +kernel
theorem dX4_endSpan_89 : decode cX4_endSpan 89 = .ok (.iinc 2 1, 3) := by decide +kernel
theorem dX4_endSpan_92 : decode cX4_endSpan 92 = .ok (.goto (-47), 3) := by decide +kernel
theorem dX4_endSpan_95 : decode cX4_endSpan 95 = .ok (.aload_n 0, 1) := by decide +kernel
theorem dX4_endSpan_96 : decode cX4_endSpan 96 = .ok (.iconst 1, 1) := by decide +kernel
theorem dX4_endSpan_97 : decode cX4_endSpan 97 = .ok (.aload_n 0, 1) := by decide +kernel
theorem dX4_endSpan_98 : decode cX4_endSpan 98 = .ok (.getfield 38, 3) := by decide +kernel
theorem dX4_endSpan_101 : decode cX4_endSpan 101 = .ok (.aload_n 0, 1) := by decide +kernel
theorem dX4_endSpan_102 : decode cX4_endSpan 102 = .ok (.getfield 45, 3) := by decide +kernel
theorem dX4_endSpan_105 : decode cX4_endSpan 105 = .ok (.imul, 1) := by decide +kernel
theorem dX4_endSpan_106 : decode cX4_endSpan 106 = .ok (.iconst 1, 1) := by decide +kernel
theorem dX4_endSpan_107 : decode cX4_endSpan 107 = .ok (.iload_n 1, 1) := by decide +kernel
theorem dX4_endSpan_108 : decode cX4_endSpan 108 = .ok (.invokestatic 145, 3) := by decide +kernel
theorem dX4_endSpan_111 : decode cX4_endSpan 111 = .ok (.idiv, 1) := by decide +kernel
theorem dX4_endSpan_112 : decode cX4_endSpan 112 = .ok (.invokestatic 145, 3) := by decide +kernel
theorem dX4_endSpan_115 : decode cX4_endSpan 115 = .ok (.putfield 54, 3) := by decide +kernel
theorem dX4_endSpan_118 : decode cX4_endSpan 118 = .ok (.aload_n 0, 1) := by decide +kernel
theorem dX4_endSpan_119 : decode cX4_endSpan 119 = .ok (.aload_n 0, 1) := by decide +kernel
theorem dX4_endSpan_120 : decode cX4_endSpan 120 = .ok (.getfield 86, 3) := by decide +kernel
theorem dX4_endSpan_123 : decode cX4_endSpan 123 = .ok (.putfield 57, 3) := by decide +kernel
theorem dX4_endSpan_126 : decode cX4_endSpan 126 = .ok (.aload_n 0, 1) := by decide +kernel
theorem dX4_endSpan_127 : decode cX4_endSpan 127 = .ok (.invokevirtual 60, 3) := by decide +kernel
theorem dX4_endSpan_130 : decode cX4_endSpan 130 = .ok (.return_, 1) := by decide +kernel
theorem dX4_mostAllowed_0 : decode cX4_mostAllowed 0 = .ok (.iload_n 1, 1) := by decide +kernel
theorem dX4_mostAllowed_1 : decode cX4_mostAllowed 1 = .ok (.ifCond .lt 21, 3) := by decide +kernel
theorem dX4_mostAllowed_4 : decode cX4_mostAllowed 4 = .ok (.iload_n 1, 1) := by decide +kernel
theorem dX4_mostAllowed_5 : decode cX4_mostAllowed 5 = .ok (.aload_n 0, 1) := by decide +kernel
theorem dX4_mostAllowed_6 : decode cX4_mostAllowed 6 = .ok (.getfield 28, 3) := by decide +kernel
theorem dX4_mostAllowed_9 : decode cX4_mostAllowed 9 = .ok (.arraylength, 1) := by decide +kernel
theorem dX4_mostAllowed_10 : decode cX4_mostAllowed 10 = .ok (.if_icmp .ge 12, 3) := by decide +kernel
theorem dX4_mostAllowed_13 : decode cX4_mostAllowed 13 = .ok (.aload_n 0, 1) := by decide +kernel
theorem dX4_mostAllowed_14 : decode cX4_mostAllowed 14 = .ok (.getfield 28, 3) := by decide +kernel
theorem dX4_mostAllowed_17 : decode cX4_mostAllowed 17 = .ok (.iload_n 1, 1) := by decide +kernel
theorem dX4_mostAllowed_18 : decode cX4_mostAllowed 18 = .ok (.iaload, 1) := by decide +kernel
theorem dX4_mostAllowed_19 : decode cX4_mostAllowed 19 = .ok (.ifCond .gt 5, 3) := by decide +kernel
theorem dX4_mostAllowed_22 : decode cX4_mostAllowed 22 = .ok (.iconst 2, 1) := by decide +kernel
theorem dX4_mostAllowed_23 : decode cX4_mostAllowed 23 = .ok (.ireturn, 1) := by decide +kernel
theorem dX4_mostAllowed_24 : decode cX4_mostAllowed 24 = .ok (.aload_n 0, 1) := by decide +kernel
theorem dX4_mostAllowed_25 : decode cX4_mostAllowed 25 = .ok (.getfield 25, 3) := by decide +kernel
theorem dX4_mostAllowed_28 : decode cX4_mostAllowed 28 = .ok (.iload_n 1, 1) := by decide +kernel
theorem dX4_mostAllowed_29 : decode cX4_mostAllowed 29 = .ok (.iaload, 1) := by decide +kernel
theorem dX4_mostAllowed_30 : decode cX4_mostAllowed 30 = .ok (.aload_n 0, 1) := by decide +kernel
theorem dX4_mostAllowed_31 : decode cX4_mostAllowed 31 = .ok (.getfield 45, 3) := by decide +kernel
theorem dX4_mostAllowed_34 : decode cX4_mostAllowed 34 = .ok (.imul, 1) := by decide +kernel
theorem dX4_mostAllowed_35 : decode cX4_mostAllowed 35 = .ok (.bipush 100, 2) := by decide +kernel
theorem dX4_mostAllowed_37 : decode cX4_mostAllowed 37 = .ok (.aload_n 0, 1) := by decide +kernel
theorem dX4_mostAllowed_38 : decode cX4_mostAllowed 38 = .ok (.getfield 28, 3) := by decide +kernel
theorem dX4_mostAllowed_41 : decode cX4_mostAllowed 41 = .ok (.iload_n 1, 1) := by decide +kernel
theorem dX4_mostAllowed_42 : decode cX4_mostAllowed 42 = .ok (.iaload, 1) := by decide +kernel
theorem dX4_mostAllowed_43 : decode cX4_mostAllowed 43 = .ok (.imul, 1) := by decide +kernel
theorem dX4_mostAllowed_44 : decode cX4_mostAllowed 44 = .ok (.idiv, 1) := by decide +kernel
theorem dX4_mostAllowed_45 : decode cX4_mostAllowed 45 = .ok (.istore_n 2, 1) := by decide +kernel
theorem dX4_mostAllowed_46 : decode cX4_mostAllowed 46 = .ok (.iconst 3, 1) := by decide +kernel
theorem dX4_mostAllowed_47 : decode cX4_mostAllowed 47 = .ok (.iload_n 2, 1) := by decide +kernel
theorem dX4_mostAllowed_48 : decode cX4_mostAllowed 48 = .ok (.imul, 1) := by decide +kernel
theorem dX4_mostAllowed_49 : decode cX4_mostAllowed 49 = .ok (.iconst 2, 1) := by decide +kernel
theorem dX4_mostAllowed_50 : decode cX4_mostAllowed 50 = .ok (.idiv, 1) := by decide +kernel
theorem dX4_mostAllowed_51 : decode cX4_mostAllowed 51 = .ok (.iconst 2, 1) := by decide +kernel
theorem dX4_mostAllowed_52 : decode cX4_mostAllowed 52 = .ok (.iadd, 1) := by decide +kernel
theorem dX4_mostAllowed_53 : decode cX4_mostAllowed 53 = .ok (.ireturn, 1) := by decide +kernel
theorem dX4_beginSpan_0 : decode cX4_beginSpan 0 = .ok (.aload_n 0, 1) := by decide +kernel
theorem dX4_beginSpan_1 : decode cX4_beginSpan 1 = .ok (.iconst 0, 1) := by decide +kernel
theorem dX4_beginSpan_2 : decode cX4_beginSpan 2 = .ok (.putfield 66, 3) := by decide +kernel
theorem dX4_beginSpan_5 : decode cX4_beginSpan 5 = .ok (.aload_n 0, 1) := by decide +kernel
theorem dX4_beginSpan_6 : decode cX4_beginSpan 6 = .ok (.aload_n 0, 1) := by decide +kernel
theorem dX4_beginSpan_7 : decode cX4_beginSpan 7 = .ok (.getfield 42, 3) := by decide +kernel
theorem dX4_beginSpan_10 : decode cX4_beginSpan 10 = .ok (.putfield 69, 3) := by decide +kernel
theorem dX4_beginSpan_13 : decode cX4_beginSpan 13 = .ok (.aload_n 0, 1) := by decide +kernel
theorem dX4_beginSpan_14 : decode cX4_beginSpan 14 = .ok (.lconst 0, 1) := by decide +kernel
theorem dX4_beginSpan_15 : decode cX4_beginSpan 15 = .ok (.putfield 72, 3) := by decide +kernel
theorem dX4_beginSpan_18 : decode cX4_beginSpan 18 = .ok (.aload_n 0, 1) := by decide +kernel
theorem dX4_beginSpan_19 : decode cX4_beginSpan 19 = .ok (.iconst 0, 1) := by decide +kernel
theorem dX4_beginSpan_20 : decode cX4_beginSpan 20 = .ok (.putfield 86, 3) := by decide +kernel
theorem dX4_beginSpan_23 : decode cX4_beginSpan 23 = .ok (.aload_n 0, 1) := by decide +kernel
theorem dX4_beginSpan_24 : decode cX4_beginSpan 24 = .ok (.getfield 21, 3) := by decide +kernel
theorem dX4_beginSpan_27 : decode cX4_beginSpan 27 = .ok (.iconst 0, 1) := by decide +kernel
theorem dX4_beginSpan_28 : decode cX4_beginSpan 28 = .ok (.invokestatic 148, 3) := by decide +kernel
theorem dX4_beginSpan_31 : decode cX4_beginSpan 31 = .ok (.aload_n 0, 1) := by decide +kernel
theorem dX4_beginSpan_32 : decode cX4_beginSpan 32 = .ok (.getfield 25, 3) := by decide +kernel
theorem dX4_beginSpan_35 : decode cX4_beginSpan 35 = .ok (.iconst 0, 1) := by decide +kernel
theorem dX4_beginSpan_36 : decode cX4_beginSpan 36 = .ok (.invokestatic 148, 3) := by decide +kernel
theorem dX4_beginSpan_39 : decode cX4_beginSpan 39 = .ok (.aload_n 0, 1) := by decide +kernel
theorem dX4_beginSpan_40 : decode cX4_beginSpan 40 = .ok (.getfield 28, 3) := by decide +kernel
theorem dX4_beginSpan_43 : decode cX4_beginSpan 43 = .ok (.iconst 0, 1) := by decide +kernel
theorem dX4_beginSpan_44 : decode cX4_beginSpan 44 = .ok (.invokestatic 148, 3) := by decide +kernel
theorem dX4_beginSpan_47 : decode cX4_beginSpan 47 = .ok (.return_, 1) := by decide +kernel
theorem dX4_tell_0 : decode cX4_tell 0 = .ok (.iload_n 1, 1) := by decide +kernel
theorem dX4_tell_1 : decode cX4_tell 1 = .ok (.tableswitch 153 0 17 #[87, 92, 97, 102, 107, 115, 123, 128, 153, 153, 153, 153, 153, 153, 133, 138, 143, 148], 87) := by decide +kernel
theorem dX4_tell_88 : decode cX4_tell 88 = .ok (.aload_n 0, 1) := by decide +kernel
theorem dX4_tell_89 : decode cX4_tell 89 = .ok (.getfield 38, 3) := by decide +kernel
theorem dX4_tell_92 : decode cX4_tell 92 = .ok (.ireturn, 1) := by decide +kernel
theorem dX4_tell_93 : decode cX4_tell 93 = .ok (.aload_n 0, 1) := by decide +kernel
theorem dX4_tell_94 : decode cX4_tell 94 = .ok (.getfield 63, 3) := by decide +kernel
theorem dX4_tell_97 : decode cX4_tell 97 = .ok (.ireturn, 1) := by decide +kernel
theorem dX4_tell_98 : decode cX4_tell 98 = .ok (.aload_n 0, 1) := by decide +kernel
theorem dX4_tell_99 : decode cX4_tell 99 = .ok (.getfield 42, 3) := by decide +kernel
theorem dX4_tell_102 : decode cX4_tell 102 = .ok (.ireturn, 1) := by decide +kernel
theorem dX4_tell_103 : decode cX4_tell 103 = .ok (.aload_n 0, 1) := by decide +kernel
theorem dX4_tell_104 : decode cX4_tell 104 = .ok (.getfield 45, 3) := by decide +kernel
theorem dX4_tell_107 : decode cX4_tell 107 = .ok (.ireturn, 1) := by decide +kernel
theorem dX4_tell_108 : decode cX4_tell 108 = .ok (.aload_n 0, 1) := by decide +kernel
theorem dX4_tell_109 : decode cX4_tell 109 = .ok (.getfield 12, 3) := by decide +kernel
theorem dX4_tell_112 : decode cX4_tell 112 = .ok (.getfield 89, 3) := by decide +kernel
theorem dX4_tell_115 : decode cX4_tell 115 = .ok (.ireturn, 1) := by decide +kernel
theorem dX4_tell_116 : decode cX4_tell 116 = .ok (.aload_n 0, 1) := by decide +kernel
theorem dX4_tell_117 : decode cX4_tell 117 = .ok (.getfield 18, 3) := by decide +kernel
theorem dX4_tell_120 : decode cX4_tell 120 = .ok (.getfield 89, 3) := by decide +kernel
theorem dX4_tell_123 : decode cX4_tell 123 = .ok (.ireturn, 1) := by decide +kernel
theorem dX4_tell_124 : decode cX4_tell 124 = .ok (.aload_n 0, 1) := by decide +kernel
theorem dX4_tell_125 : decode cX4_tell 125 = .ok (.getfield 66, 3) := by decide +kernel
theorem dX4_tell_128 : decode cX4_tell 128 = .ok (.ireturn, 1) := by decide +kernel
theorem dX4_tell_129 : decode cX4_tell 129 = .ok (.aload_n 0, 1) := by decide +kernel
theorem dX4_tell_130 : decode cX4_tell 130 = .ok (.getfield 69, 3) := by decide +kernel
theorem dX4_tell_133 : decode cX4_tell 133 = .ok (.ireturn, 1) := by decide +kernel
theorem dX4_tell_134 : decode cX4_tell 134 = .ok (.aload_n 0, 1) := by decide +kernel
theorem dX4_tell_135 : decode cX4_tell 135 = .ok (.getfield 51, 3) := by decide +kernel
theorem dX4_tell_138 : decode cX4_tell 138 = .ok (.ireturn, 1) := by decide +kernel
theorem dX4_tell_139 : decode cX4_tell 139 = .ok (.aload_n 0, 1) := by decide +kernel
theorem dX4_tell_140 : decode cX4_tell 140 = .ok (.getfield 54, 3) := by decide +kernel
theorem dX4_tell_143 : decode cX4_tell 143 = .ok (.ireturn, 1) := by decide +kernel
theorem dX4_tell_144 : decode cX4_tell 144 = .ok (.aload_n 0, 1) := by decide +kernel
theorem dX4_tell_145 : decode cX4_tell 145 = .ok (.getfield 86, 3) := by decide +kernel
theorem dX4_tell_148 : decode cX4_tell 148 = .ok (.ireturn, 1) := by decide +kernel
theorem dX4_tell_149 : decode cX4_tell 149 = .ok (.aload_n 0, 1) := by decide +kernel
theorem dX4_tell_150 : decode cX4_tell 150 = .ok (.getfield 57, 3) := by decide +kernel
theorem dX4_tell_153 : decode cX4_tell 153 = .ok (.ireturn, 1) := by decide +kernel
theorem dX4_tell_154 : decode cX4_tell 154 = .ok (.aload_n 0, 1) := by decide +kernel
theorem dX4_tell_155 : decode cX4_tell 155 = .ok (.iload_n 1, 1) := by decide +kernel
theorem dX4_tell_156 : decode cX4_tell 156 = .ok (.invokevirtual 154, 3) := by decide +kernel
theorem dX4_tell_159 : decode cX4_tell 159 = .ok (.ireturn, 1) := by decide +kernel
theorem dX4_tellSurplus_0 : decode cX4_tellSurplus 0 = .ok (.iload_n 1, 1) := by decide +kernel
theorem dX4_tellSurplus_1 : decode cX4_tellSurplus 1 = .ok (.tableswitch 80 8 12 #[35, 44, 53, 62, 71], 35) := by decide +kernel
theorem dX4_tellSurplus_36 : decode cX4_tellSurplus 36 = .ok (.aload_n 0, 1) := by decide +kernel
theorem dX4_tellSurplus_37 : decode cX4_tellSurplus 37 = .ok (.getfield 34, 3) := by decide +kernel
theorem dX4_tellSurplus_40 : decode cX4_tellSurplus 40 = .ok (.getfield 157, 3) := by decide +kernel
theorem dX4_tellSurplus_43 : decode cX4_tellSurplus 43 = .ok (.l2i, 1) := by decide +kernel
theorem dX4_tellSurplus_44 : decode cX4_tellSurplus 44 = .ok (.ireturn, 1) := by decide +kernel
theorem dX4_tellSurplus_45 : decode cX4_tellSurplus 45 = .ok (.aload_n 0, 1) := by decide +kernel
theorem dX4_tellSurplus_46 : decode cX4_tellSurplus 46 = .ok (.getfield 34, 3) := by decide +kernel
theorem dX4_tellSurplus_49 : decode cX4_tellSurplus 49 = .ok (.getfield 160, 3) := by decide +kernel
theorem dX4_tellSurplus_52 : decode cX4_tellSurplus 52 = .ok (.l2i, 1) := by decide +kernel
theorem dX4_tellSurplus_53 : decode cX4_tellSurplus 53 = .ok (.ireturn, 1) := by decide +kernel
theorem dX4_tellSurplus_54 : decode cX4_tellSurplus 54 = .ok (.aload_n 0, 1) := by decide +kernel
theorem dX4_tellSurplus_55 : decode cX4_tellSurplus 55 = .ok (.getfield 34, 3) := by decide +kernel
theorem dX4_tellSurplus_58 : decode cX4_tellSurplus 58 = .ok (.getfield 163, 3) := by decide +kernel
theorem dX4_tellSurplus_61 : decode cX4_tellSurplus 61 = .ok (.l2i, 1) := by decide +kernel
theorem dX4_tellSurplus_62 : decode cX4_tellSurplus 62 = .ok (.ireturn, 1) := by decide +kernel
theorem dX4_tellSurplus_63 : decode cX4_tellSurplus 63 = .ok (.aload_n 0, 1) := by decide +kernel
theorem dX4_tellSurplus_64 : decode cX4_tellSurplus 64 = .ok (.getfield 34, 3) := by decide +kernel
theorem dX4_tellSurplus_67 : decode cX4_tellSurplus 67 = .ok (.getfield 166, 3) := by decide +kernel
theorem dX4_tellSurplus_70 : decode cX4_tellSurplus 70 = .ok (.l2i, 1) := by decide +kernel
theorem dX4_tellSurplus_71 : decode cX4_tellSurplus 71 = .ok (.ireturn, 1) := by decide +kernel
theorem dX4_tellSurplus_72 : decode cX4_tellSurplus 72 = .ok (.aload_n 0, 1) := by decide +kernel
theorem dX4_tellSurplus_73 : decode cX4_tellSurplus 73 = .ok (.getfield 34, 3) := by decide +kernel
theorem dX4_tellSurplus_76 : decode cX4_tellSurplus 76 = .ok (.getfield 169, 3) := by decide +kernel
theorem dX4_tellSurplus_79 : decode cX4_tellSurplus 79 = .ok (.l2i, 1) := by decide +kernel
theorem dX4_tellSurplus_80 : decode cX4_tellSurplus 80 = .ok (.ireturn, 1) := by decide +kernel
theorem dX4_tellSurplus_81 : decode cX4_tellSurplus 81 = .ok (.aload_n 0, 1) := by decide +kernel
theorem dX4_tellSurplus_82 : decode cX4_tellSurplus 82 = .ok (.getfield 34, 3) := by decide +kernel
theorem dX4_tellSurplus_85 : decode cX4_tellSurplus 85 = .ok (.getfield 172, 3) := by decide +kernel
theorem dX4_tellSurplus_88 : decode cX4_tellSurplus 88 = .ok (.l2i, 1) := by decide +kernel
theorem dX4_tellSurplus_89 : decode cX4_tellSurplus 89 = .ok (.ireturn, 1) := by decide +kernel
theorem dX5_init_0 : decode cX5_init 0 = .ok (.aload_n 0, 1) := by decide +kernel
theorem dX5_init_1 : decode cX5_init 1 = .ok (.invokespecial 3, 3) := by decide +kernel
theorem dX5_init_4 : decode cX5_init 4 = .ok (.aload_n 0, 1) := by decide +kernel
theorem dX5_init_5 : decode cX5_init 5 = .ok (.bipush 6, 2) := by decide +kernel
theorem dX5_init_7 : decode cX5_init 7 = .ok (.anewarray 9, 3) := by decide +kernel
theorem dX5_init_10 : decode cX5_init 10 = .ok (.putfield 11, 3) := by decide +kernel
theorem dX5_init_13 : decode cX5_init 13 = .ok (.aload_n 0, 1) := by decide +kernel
theorem dX5_init_14 : decode cX5_init 14 = .ok (.bipush 6, 2) := by decide +kernel
theorem dX5_init_16 : decode cX5_init 16 = .ok (.anewarray 17, 3) := by decide +kernel
theorem dX5_init_19 : decode cX5_init 19 = .ok (.putfield 19, 3) := by decide +kernel
theorem dX5_init_22 : decode cX5_init 22 = .ok (.aload_n 0, 1) := by decide +kernel
theorem dX5_init_23 : decode cX5_init 23 = .ok (.new 23, 3) := by decide +kernel
theorem dX5_init_26 : decode cX5_init 26 = .ok (.dup, 1) := by decide +kernel
theorem dX5_init_27 : decode cX5_init 27 = .ok (.invokespecial 25, 3) := by decide +kernel
theorem dX5_init_30 : decode cX5_init 30 = .ok (.putfield 26, 3) := by decide +kernel
theorem dX5_init_33 : decode cX5_init 33 = .ok (.aload_n 0, 1) := by decide +kernel
theorem dX5_init_34 : decode cX5_init 34 = .ok (.new 23, 3) := by decide +kernel
theorem dX5_init_37 : decode cX5_init 37 = .ok (.dup, 1) := by decide +kernel
theorem dX5_init_38 : decode cX5_init 38 = .ok (.invokespecial 25, 3) := by decide +kernel
theorem dX5_init_41 : decode cX5_init 41 = .ok (.putfield 30, 3) := by decide +kernel
theorem dX5_init_44 : decode cX5_init 44 = .ok (.aload_n 0, 1) := by decide +kernel
theorem dX5_init_45 : decode cX5_init 45 = .ok (.new 33, 3) := by decide +kernel
theorem dX5_init_48 : decode cX5_init 48 = .ok (.dup, 1) := by decide +kernel
theorem dX5_init_49 : decode cX5_init 49 = .ok (.invokespecial 35, 3) := by decide +kernel
theorem dX5_init_52 : decode cX5_init 52 = .ok (.putfield 36, 3) := by decide +kernel
theorem dX5_init_55 : decode cX5_init 55 = .ok (.aload_n 0, 1) := by decide +kernel
theorem dX5_init_56 : decode cX5_init 56 = .ok (.bipush 120, 2) := by decide +kernel
theorem dX5_init_58 : decode cX5_init 58 = .ok (.newarray .int, 2) := by decide +kernel
theorem dX5_init_60 : decode cX5_init 60 = .ok (.putfield 40, 3) := by decide +kernel
theorem dX5_init_63 : decode cX5_init 63 = .ok (.iconst 0, 1) := by decide +kernel
theorem dX5_init_64 : decode cX5_init 64 = .ok (.istore_n 1, 1) := by decide +kernel
theorem dX5_init_65 : decode cX5_init 65 = .ok (.iload_n 1, 1) := by decide +kernel
theorem dX5_init_66 : decode cX5_init 66 = .ok (.aload_n 0, 1) := by decide +kernel
theorem dX5_init_67 : decode cX5_init 67 = .ok (.getfield 11, 3) := by decide +kernel
theorem dX5_init_70 : decode cX5_init 70 = .ok (.arraylength, 1) := by decide +kernel
theorem dX5_init_71 : decode cX5_init 71 = .ok (.if_icmp .ge 22, 3) := by decide +kernel
theorem dX5_init_74 : decode cX5_init 74 = .ok (.aload_n 0, 1) := by decide +kernel
theorem dX5_init_75 : decode cX5_init 75 = .ok (.getfield 11, 3) := by decide +kernel
theorem dX5_init_78 : decode cX5_init 78 = .ok (.iload_n 1, 1) := by decide +kernel
theorem dX5_init_79 : decode cX5_init 79 = .ok (.new 9, 3) := by decide +kernel
theorem dX5_init_82 : decode cX5_init 82 = .ok (.dup, 1) := by decide +kernel
theorem dX5_init_83 : decode cX5_init 83 = .ok (.invokespecial 44, 3) := by decide +kernel
theorem dX5_init_86 : decode cX5_init 86 = .ok (.aastore, 1) := by decide +kernel
theorem dX5_init_87 : decode cX5_init 87 = .ok (.iinc 1 1, 3) := by decide +kernel
theorem dX5_init_90 : decode cX5_init 90 = .ok (.goto (-25), 3) := by decide +kernel
theorem dX5_init_93 : decode cX5_init 93 = .ok (.iconst 0, 1) := by decide +kernel
theorem dX5_init_94 : decode cX5_init 94 = .ok (.istore_n 1, 1) := by decide +kernel
theorem dX5_init_95 : decode cX5_init 95 = .ok (.iload_n 1, 1) := by decide +kernel
theorem dX5_init_96 : decode cX5_init 96 = .ok (.aload_n 0, 1) := by decide +kernel
theorem dX5_init_97 : decode cX5_init 97 = .ok (.getfield 19, 3) := by decide +kernel
theorem dX5_init_100 : decode cX5_init 100 = .ok (.arraylength, 1) := by decide +kernel
theorem dX5_init_101 : decode cX5_init 101 = .ok (.if_icmp .ge 22, 3) := by decide +kernel
theorem dX5_init_104 : decode cX5_init 104 = .ok (.aload_n 0, 1) := by decide +kernel
theorem dX5_init_105 : decode cX5_init 105 = .ok (.getfield 19, 3) := by decide +kernel
theorem dX5_init_108 : decode cX5_init 108 = .ok (.iload_n 1, 1) := by decide +kernel
theorem dX5_init_109 : decode cX5_init 109 = .ok (.new 17, 3) := by decide +kernel
theorem dX5_init_112 : decode cX5_init 112 = .ok (.dup, 1) := by decide +kernel
theorem dX5_init_113 : decode cX5_init 113 = .ok (.invokespecial 45, 3) := by decide +kernel
theorem dX5_init_116 : decode cX5_init 116 = .ok (.aastore, 1) := by decide +kernel
theorem dX5_init_117 : decode cX5_init 117 = .ok (.iinc 1 1, 3) := by decide +kernel
theorem dX5_init_120 : decode cX5_init 120 = .ok (.goto (-25), 3) := by decide +kernel
theorem dX5_init_123 : decode cX5_init 123 = .ok (.return_, 1) := by decide +kernel
theorem dX5_clear_0 : decode cX5_clear 0 = .ok (.aload_n 0, 1) := by decide +kernel
theorem dX5_clear_1 : decode cX5_clear 1 = .ok (.invokevirtual 46, 3) := by decide +kernel
theorem dX5_clear_4 : decode cX5_clear 4 = .ok (.aload_n 0, 1) := by decide +kernel
theorem dX5_clear_5 : decode cX5_clear 5 = .ok (.iconst 0, 1) := by decide +kernel
theorem dX5_clear_6 : decode cX5_clear 6 = .ok (.putfield 49, 3) := by decide +kernel
theorem dX5_clear_9 : decode cX5_clear 9 = .ok (.aload_n 0, 1) := by decide +kernel
theorem dX5_clear_10 : decode cX5_clear 10 = .ok (.iconst 0, 1) := by decide +kernel
theorem dX5_clear_11 : decode cX5_clear 11 = .ok (.putfield 53, 3) := by decide +kernel
theorem dX5_clear_14 : decode cX5_clear 14 = .ok (.aload_n 0, 1) := by decide +kernel
theorem dX5_clear_15 : decode cX5_clear 15 = .ok (.iconst 0, 1) := by decide +kernel
theorem dX5_clear_16 : decode cX5_clear 16 = .ok (.putfield 56, 3) := by decide +kernel
theorem dX5_clear_19 : decode cX5_clear 19 = .ok (.aload_n 0, 1) := by decide +kernel
theorem dX5_clear_20 : decode cX5_clear 20 = .ok (.getfield 36, 3) := by decide +kernel
theorem dX5_clear_23 : decode cX5_clear 23 = .ok (.invokevirtual 59, 3) := by decide +kernel
theorem dX5_clear_26 : decode cX5_clear 26 = .ok (.aload_n 0, 1) := by decide +kernel
theorem dX5_clear_27 : decode cX5_clear 27 = .ok (.iconst 0, 1) := by decide +kernel
theorem dX5_clear_28 : decode cX5_clear 28 = .ok (.putfield 62, 3) := by decide +kernel
theorem dX5_clear_31 : decode cX5_clear 31 = .ok (.aload_n 0, 1) := by decide +kernel
theorem dX5_clear_32 : decode cX5_clear 32 = .ok (.iconst 0, 1) := by decide +kernel
theorem dX5_clear_33 : decode cX5_clear 33 = .ok (.putfield 65, 3) := by decide +kernel
theorem dX5_clear_36 : decode cX5_clear 36 = .ok (.return_, 1) := by decide +kernel
theorem dX5_copyFrom_0 : decode cX5_copyFrom 0 = .ok (.aload_n 0, 1) := by decide +kernel
theorem dX5_copyFrom_1 : decode cX5_copyFrom 1 = .ok (.invokevirtual 46, 3) := by decide +kernel
theorem dX5_copyFrom_4 : decode cX5_copyFrom 4 = .ok (.aload_n 0, 1) := by decide +kernel
theorem dX5_copyFrom_5 : decode cX5_copyFrom 5 = .ok (.aload_n 1, 1) := by decide +kernel
theorem dX5_copyFrom_6 : decode cX5_copyFrom 6 = .ok (.getfield 49, 3) := by decide +kernel
theorem dX5_copyFrom_9 : decode cX5_copyFrom 9 = .ok (.putfield 49, 3) := by decide +kernel
theorem dX5_copyFrom_12 : decode cX5_copyFrom 12 = .ok (.aload_n 0, 1) := by decide +kernel
theorem dX5_copyFrom_13 : decode cX5_copyFrom 13 = .ok (.aload_n 1, 1) := by decide +kernel
theorem dX5_copyFrom_14 : decode cX5_copyFrom 14 = .ok (.getfield 53, 3) := by decide +kernel
theorem dX5_copyFrom_17 : decode cX5_copyFrom 17 = .ok (.putfield 53, 3) := by decide +kernel
theorem dX5_copyFrom_20 : decode cX5_copyFrom 20 = .ok (.aload_n 0, 1) := by decide +kernel
theorem dX5_copyFrom_21 : decode cX5_copyFrom 21 = .ok (.aload_n 1, 1) := by decide +kernel
theorem dX5_copyFrom_22 : decode cX5_copyFrom 22 = .ok (.getfield 56, 3) := by decide +kernel
theorem dX5_copyFrom_25 : decode cX5_copyFrom 25 = .ok (.putfield 56, 3) := by decide +kernel
theorem dX5_copyFrom_28 : decode cX5_copyFrom 28 = .ok (.iconst 0, 1) := by decide +kernel
theorem dX5_copyFrom_29 : decode cX5_copyFrom 29 = .ok (.istore_n 2, 1) := by decide +kernel
theorem dX5_copyFrom_30 : decode cX5_copyFrom 30 = .ok (.iload_n 2, 1) := by decide +kernel
theorem dX5_copyFrom_31 : decode cX5_copyFrom 31 = .ok (.aload_n 0, 1) := by decide +kernel
theorem dX5_copyFrom_32 : decode cX5_copyFrom 32 = .ok (.getfield 49, 3) := by decide +kernel
theorem dX5_copyFrom_35 : decode cX5_copyFrom 35 = .ok (.if_icmp .ge 68, 3) := by decide +kernel
theorem dX5_copyFrom_38 : decode cX5_copyFrom 38 = .ok (.aload_n 0, 1) := by decide +kernel
theorem dX5_copyFrom_39 : decode cX5_copyFrom 39 = .ok (.getfield 11, 3) := by decide +kernel
theorem dX5_copyFrom_42 : decode cX5_copyFrom 42 = .ok (.iload_n 2, 1) := by decide +kernel
theorem dX5_copyFrom_43 : decode cX5_copyFrom 43 = .ok (.aaload, 1) := by decide +kernel
theorem dX5_copyFrom_44 : decode cX5_copyFrom 44 = .ok (.aload_n 1, 1) := by decide +kernel
theorem dX5_copyFrom_45 : decode cX5_copyFrom 45 = .ok (.getfield 11, 3) := by decide +kernel
theorem dX5_copyFrom_48 : decode cX5_copyFrom 48 = .ok (.iload_n 2, 1) := by decide +kernel
theorem dX5_copyFrom_49 : decode cX5_copyFrom 49 = .ok (.aaload, 1) := by decide +kernel
theorem dX5_copyFrom_50 : decode cX5_copyFrom 50 = .ok (.invokevirtual 69, 3) := by decide +kernel
theorem dX5_copyFrom_53 : decode cX5_copyFrom 53 = .ok (.aload_n 0, 1) := by decide +kernel
theorem dX5_copyFrom_54 : decode cX5_copyFrom 54 = .ok (.aload_n 1, 1) := by decide +kernel
theorem dX5_copyFrom_55 : decode cX5_copyFrom 55 = .ok (.getfield 11, 3) := by decide +kernel
theorem dX5_copyFrom_58 : decode cX5_copyFrom 58 = .ok (.iload_n 2, 1) := by decide +kernel
theorem dX5_copyFrom_59 : decode cX5_copyFrom 59 = .ok (.aaload, 1) := by decide +kernel
theorem dX5_copyFrom_60 : decode cX5_copyFrom 60 = .ok (.getfield 73, 3) := by decide +kernel
theorem dX5_copyFrom_63 : decode cX5_copyFrom 63 = .ok (.aload_n 0, 1) := by decide +kernel
theorem dX5_copyFrom_64 : decode cX5_copyFrom 64 = .ok (.getfield 11, 3) := by decide +kernel
theorem dX5_copyFrom_67 : decode cX5_copyFrom 67 = .ok (.iload_n 2, 1) := by decide +kernel
theorem dX5_copyFrom_68 : decode cX5_copyFrom 68 = .ok (.aaload, 1) := by decide +kernel
theorem dX5_copyFrom_69 : decode cX5_copyFrom 69 = .ok (.getfield 73, 3) := by decide +kernel
theorem dX5_copyFrom_72 : decode cX5_copyFrom 72 = .ok (.invokevirtual 76, 3) := by decide +kernel
theorem dX5_copyFrom_75 : decode cX5_copyFrom 75 = .ok (.aload_n 0, 1) := by decide +kernel
theorem dX5_copyFrom_76 : decode cX5_copyFrom 76 = .ok (.aload_n 1, 1) := by decide +kernel
theorem dX5_copyFrom_77 : decode cX5_copyFrom 77 = .ok (.getfield 11, 3) := by decide +kernel
theorem dX5_copyFrom_80 : decode cX5_copyFrom 80 = .ok (.iload_n 2, 1) := by decide +kernel
theorem dX5_copyFrom_81 : decode cX5_copyFrom 81 = .ok (.aaload, 1) := by decide +kernel
theorem dX5_copyFrom_82 : decode cX5_copyFrom 82 = .ok (.getfield 80, 3) := by decide +kernel
theorem dX5_copyFrom_85 : decode cX5_copyFrom 85 = .ok (.aload_n 0, 1) := by decide +kernel
theorem dX5_copyFrom_86 : decode cX5_copyFrom 86 = .ok (.getfield 11, 3) := by decide +kernel
theorem dX5_copyFrom_89 : decode cX5_copyFrom 89 = .ok (.iload_n 2, 1) := by decide +kernel
theorem dX5_copyFrom_90 : decode cX5_copyFrom 90 = .ok (.aaload, 1) := by decide +kernel
theorem dX5_copyFrom_91 : decode cX5_copyFrom 91 = .ok (.getfield 80, 3) := by decide +kernel
theorem dX5_copyFrom_94 : decode cX5_copyFrom 94 = .ok (.invokevirtual 76, 3) := by decide +kernel
theorem dX5_copyFrom_97 : decode cX5_copyFrom 97 = .ok (.iinc 2 1, 3) := by decide +kernel
theorem dX5_copyFrom_100 : decode cX5_copyFrom 100 = .ok (.goto (-70), 3) := by decide +kernel
theorem dX5_copyFrom_103 : decode cX5_copyFrom 103 = .ok (.iconst 0, 1) := by decide +kernel
theorem dX5_copyFrom_104 : decode cX5_copyFrom 104 = .ok (.istore_n 2, 1) := by decide +kernel
theorem dX5_copyFrom_105 : decode cX5_copyFrom 105 = .ok (.iload_n 2, 1) := by decide +kernel
theorem dX5_copyFrom_106 : decode cX5_copyFrom 106 = .ok (.aload_n 0, 1) := by decide +kernel
theorem dX5_copyFrom_107 : decode cX5_copyFrom 107 = .ok (.getfield 53, 3) := by decide +kernel
theorem dX5_copyFrom_110 : decode cX5_copyFrom 110 = .ok (.if_icmp .ge 24, 3) := by decide +kernel
theorem dX5_copyFrom_113 : decode cX5_copyFrom 113 = .ok (.aload_n 0, 1) := by decide +kernel
theorem dX5_copyFrom_114 : decode cX5_copyFrom 114 = .ok (.getfield 19, 3) := by decide +kernel
theorem dX5_copyFrom_117 : decode cX5_copyFrom 117 = .ok (.iload_n 2, 1) := by decide +kernel
theorem dX5_copyFrom_118 : decode cX5_copyFrom 118 = .ok (.aaload, 1) := by decide +kernel
theorem dX5_copyFrom_119 : decode cX5_copyFrom 119 = .ok (.aload_n 1, 1) := by decide +kernel
theorem dX5_copyFrom_120 : decode cX5_copyFrom 120 = .ok (.getfield 19, 3) := by decide +kernel
theorem dX5_copyFrom_123 : decode cX5_copyFrom 123 = .ok (.iload_n 2, 1) := by decide +kernel
theorem dX5_copyFrom_124 : decode cX5_copyFrom 124 = .ok (.aaload, 1) := by decide +kernel
theorem dX5_copyFrom_125 : decode cX5_copyFrom 125 = .ok (.invokevirtual 83, 3) := by decide +kernel
theorem dX5_copyFrom_128 : decode cX5_copyFrom 128 = .ok (.iinc 2 1, 3) := by decide +kernel
theorem dX5_copyFrom_131 : decode cX5_copyFrom 131 = .ok (.goto (-26), 3) := by decide +kernel
theorem dX5_copyFrom_134 : decode cX5_copyFrom 134 = .ok (.aload_n 0, 1) := by decide +kernel
theorem dX5_copyFrom_135 : decode cX5_copyFrom 135 = .ok (.aload_n 1, 1) := by decide +kernel
theorem dX5_copyFrom_136 : decode cX5_copyFrom 136 = .ok (.getfield 26, 3) := by decide +kernel
theorem dX5_copyFrom_139 : decode cX5_copyFrom 139 = .ok (.aload_n 0, 1) := by decide +kernel
theorem dX5_copyFrom_140 : decode cX5_copyFrom 140 = .ok (.getfield 26, 3) := by decide +kernel
theorem dX5_copyFrom_143 : decode cX5_copyFrom 143 = .ok (.invokevirtual 76, 3) := by decide +kernel
theorem dX5_copyFrom_146 : decode cX5_copyFrom 146 = .ok (.aload_n 0, 1) := by decide +kernel
theorem dX5_copyFrom_147 : decode cX5_copyFrom 147 = .ok (.getfield 36, 3) := by decide +kernel
theorem dX5_copyFrom_150 : decode cX5_copyFrom 150 = .ok (.aload_n 1, 1) := by decide +kernel
theorem dX5_copyFrom_151 : decode cX5_copyFrom 151 = .ok (.getfield 36, 3) := by decide +kernel
theorem dX5_copyFrom_154 : decode cX5_copyFrom 154 = .ok (.invokevirtual 86, 3) := by decide +kernel
theorem dX5_copyFrom_157 : decode cX5_copyFrom 157 = .ok (.aload_n 1, 1) := by decide +kernel
theorem dX5_copyFrom_158 : decode cX5_copyFrom 158 = .ok (.getfield 40, 3) := by decide +kernel
theorem dX5_copyFrom_161 : decode cX5_copyFrom 161 = .ok (.iconst 0, 1) := by decide +kernel
theorem dX5_copyFrom_162 : decode cX5_copyFrom 162 = .ok (.aload_n 0, 1) := by decide +kernel
theorem dX5_copyFrom_163 : decode cX5_copyFrom 163 = .ok (.getfield 40, 3) := by decide +kernel
theorem dX5_copyFrom_166 : decode cX5_copyFrom 166 = .ok (.iconst 0, 1) := by decide +kernel
theorem dX5_copyFrom_167 : decode cX5_copyFrom 167 = .ok (.aload_n 0, 1) := by decide +kernel
theorem dX5_copyFrom_168 : decode cX5_copyFrom 168 = .ok (.getfield 40, 3) := by decide +kernel
theorem dX5_copyFrom_171 : decode cX5_copyFrom 171 = .ok (.arraylength, 1) := by decide +kernel
theorem dX5_copyFrom_172 : decode cX5_copyFrom 172 = .ok (.invokestatic 89, 3) := by decide +kernel
theorem dX5_copyFrom_175 : decode cX5_copyFrom 175 = .ok (.aload_n 0, 1) := by decide +kernel
theorem dX5_copyFrom_176 : decode cX5_copyFrom 176 = .ok (.aload_n 1, 1) := by decide +kernel
theorem dX5_copyFrom_177 : decode cX5_copyFrom 177 = .ok (.getfield 62, 3) := by decide +kernel
theorem dX5_copyFrom_180 : decode cX5_copyFrom 180 = .ok (.putfield 62, 3) := by decide +kernel
theorem dX5_copyFrom_183 : decode cX5_copyFrom 183 = .ok (.aload_n 0, 1) := by decide +kernel
theorem dX5_copyFrom_184 : decode cX5_copyFrom 184 = .ok (.aload_n 1, 1) := by decide +kernel
theorem dX5_copyFrom_185 : decode cX5_copyFrom 185 = .ok (.getfield 65, 3) := by decide +kernel
theorem dX5_copyFrom_188 : decode cX5_copyFrom 188 = .ok (.putfield 65, 3) := by decide +kernel
theorem dX5_copyFrom_191 : decode cX5_copyFrom 191 = .ok (.return_, 1) := by decide +kernel
theorem dX5_spareAllPackets_0 : decode cX5_spareAllPackets 0 = .ok (.iconst 0, 1) := by decide +kernel
theorem dX5_spareAllPackets_1 : decode cX5_spareAllPackets 1 = .ok (.istore_n 1, 1) := by decide +kernel
theorem dX5_spareAllPackets_2 : decode cX5_spareAllPackets 2 = .ok (.iload_n 1, 1) := by decide +kernel
theorem dX5_spareAllPackets_3 : decode cX5_spareAllPackets 3 = .ok (.aload_n 0, 1) := by decide +kernel
theorem dX5_spareAllPackets_4 : decode cX5_spareAllPackets 4 = .ok (.getfield 49, 3) := by decide +kernel
theorem dX5_spareAllPackets_7 : decode cX5_spareAllPackets 7 = .ok (.if_icmp .ge 41, 3) := by decide +kernel
theorem dX5_spareAllPackets_10 : decode cX5_spareAllPackets 10 = .ok (.aload_n 0, 1) := by decide +kernel
theorem dX5_spareAllPackets_11 : decode cX5_spareAllPackets 11 = .ok (.getfield 11, 3) := by decide +kernel
theorem dX5_spareAllPackets_14 : decode cX5_spareAllPackets 14 = .ok (.iload_n 1, 1) := by decide +kernel
theorem dX5_spareAllPackets_15 : decode cX5_spareAllPackets 15 = .ok (.aaload, 1) := by decide +kernel
theorem dX5_spareAllPackets_16 : decode cX5_spareAllPackets 16 = .ok (.getfield 73, 3) := by decide +kernel
theorem dX5_spareAllPackets_19 : decode cX5_spareAllPackets 19 = .ok (.aload_n 0, 1) := by decide +kernel
theorem dX5_spareAllPackets_20 : decode cX5_spareAllPackets 20 = .ok (.getfield 30, 3) := by decide +kernel
theorem dX5_spareAllPackets_23 : decode cX5_spareAllPackets 23 = .ok (.invokevirtual 95, 3) := by decide +kernel
theorem dX5_spareAllPackets_26 : decode cX5_spareAllPackets 26 = .ok (.aload_n 0, 1) := by decide +kernel
theorem dX5_spareAllPackets_27 : decode cX5_spareAllPackets 27 = .ok (.getfield 11, 3) := by decide +kernel
theorem dX5_spareAllPackets_30 : decode cX5_spareAllPackets 30 = .ok (.iload_n 1, 1) := by decide +kernel
theorem dX5_spareAllPackets_31 : decode cX5_spareAllPackets 31 = .ok (.aaload, 1) := by decide +kernel
theorem dX5_spareAllPackets_32 : decode cX5_spareAllPackets 32 = .ok (.getfield 80, 3) := by decide +kernel
theorem dX5_spareAllPackets_35 : decode cX5_spareAllPackets 35 = .ok (.aload_n 0, 1) := by decide +kernel
theorem dX5_spareAllPackets_36 : decode cX5_spareAllPackets 36 = .ok (.getfield 30, 3) := by decide +kernel
theorem dX5_spareAllPackets_39 : decode cX5_spareAllPackets 39 = .ok (.invokevirtual 95, 3) := by decide +kernel
theorem dX5_spareAllPackets_42 : decode cX5_spareAllPackets 42 = .ok (.iinc 1 1, 3) := by decide +kernel
theorem dX5_spareAllPackets_45 : decode cX5_spareAllPackets 45 = .ok (.goto (-43), 3) := by decide +kernel
theorem dX5_spareAllPackets_48 : decode cX5_spareAllPackets 48 = .ok (.aload_n 0, 1) := by decide +kernel
theorem dX5_spareAllPackets_49 : decode cX5_spareAllPackets 49 = .ok (.getfield 26, 3) := by decide +kernel
theorem dX5_spareAllPackets_52 : decode cX5_spareAllPackets 52 = .ok (.aload_n 0, 1) := by decide +kernel
theorem dX5_spareAllPackets_53 : decode cX5_spareAllPackets 53 = .ok (.getfield 30, 3) := by decide +kernel
theorem dX5_spareAllPackets_56 : decode cX5_spareAllPackets 56 = .ok (.invokevirtual 95, 3) := by decide +kernel
theorem dX5_spareAllPackets_59 : decode cX5_spareAllPackets 59 = .ok (.return_, 1) := by decide +kernel
theorem dX5_copyLine_0 : decode cX5_copyLine 0 = .ok (.aload_n 1, 1) := by decide +kernel
theorem dX5_copyLine_1 : decode cX5_copyLine 1 = .ok (.getfield 99, 3) := by decide +kernel
theorem dX5_copyLine_4 : decode cX5_copyLine 4 = .ok (.astore_n 3, 1) := by decide +kernel
theorem dX5_copyLine_5 : decode cX5_copyLine 5 = .ok (.aload_n 3, 1) := by decide +kernel
theorem dX5_copyLine_6 : decode cX5_copyLine 6 = .ok (.ifnull 37, 3) := by decide +kernel
theorem dX5_copyLine_9 : decode cX5_copyLine 9 = .ok (.aload_n 0, 1) := by decide +kernel
theorem dX5_copyLine_10 : decode cX5_copyLine 10 = .ok (.invokevirtual 103, 3) := by decide +kernel
theorem dX5_copyLine_13 : decode cX5_copyLine 13 = .ok (.astore 4, 2) := by decide +kernel
theorem dX5_copyLine_15 : decode cX5_copyLine 15 = .ok (.aload 4, 2) := by decide +kernel
theorem dX5_copyLine_17 : decode cX5_copyLine 17 = .ok (.ifnonnull 6, 3) := by decide +kernel
theorem dX5_copyLine_20 : decode cX5_copyLine 20 = .ok (.goto 23, 3) := by decide +kernel
theorem dX5_copyLine_23 : decode cX5_copyLine 23 = .ok (.aload 4, 2) := by decide +kernel
theorem dX5_copyLine_25 : decode cX5_copyLine 25 = .ok (.aload_n 3, 1) := by decide +kernel
