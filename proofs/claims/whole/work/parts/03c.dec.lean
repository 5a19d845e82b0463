theorem dX8_valueOfDigits_3 : decode cX8_valueOfDigits 3 = .ok (.getfield 161, 3) := by decide +kernel
theorem dX8_valueOfDigits_6 : decode cX8_valueOfDigits 6 = .ok (.istore_n 2, 1) := by decide +kernel
theorem dX8_valueOfDigits_7 : decode cX8_valueOfDigits 7 = .ok (.iload_n 2, 1) := by decide +kernel
theorem dX8_valueOfDigits_8 : decode cX8_valueOfDigits 8 = .ok (.aload_n 0, 1) := by decide +kernel
theorem dX8_valueOfDigits_9 : decode cX8_valueOfDigits 9 = .ok (.getfield 35, 3) := by decide +kernel
theorem dX8_valueOfDigits_12 : decode cX8_valueOfDigits 12 = .ok (.if_icmp .ge 23, 3) := by decide +kernel
theorem dX8_valueOfDigits_15 : decode cX8_valueOfDigits 15 = .ok (.iload_n 1, 1) := by decide +kernel
theorem dX8_valueOfDigits_16 : decode cX8_valueOfDigits 16 = .ok (.bipush 10, 2) := by decide +kernel
theorem dX8_valueOfDigits_18 : decode cX8_valueOfDigits 18 = .ok (.imul, 1) := by decide +kernel
theorem dX8_valueOfDigits_19 : decode cX8_valueOfDigits 19 = .ok (.aload_n 0, 1) := by decide +kernel
theorem dX8_valueOfDigits_20 : decode cX8_valueOfDigits 20 = .ok (.iload_n 2, 1) := by decide +kernel
theorem dX8_valueOfDigits_21 : decode cX8_valueOfDigits 21 = .ok (.invokevirtual 164, 3) := by decide +kernel
theorem dX8_valueOfDigits_24 : decode cX8_valueOfDigits 24 = .ok (.iadd, 1) := by decide +kernel
theorem dX8_valueOfDigits_25 : decode cX8_valueOfDigits 25 = .ok (.bipush 48, 2) := by decide +kernel
theorem dX8_valueOfDigits_27 : decode cX8_valueOfDigits 27 = .ok (.isub, 1) := by decide +kernel
theorem dX8_valueOfDigits_28 : decode cX8_valueOfDigits 28 = .ok (.istore_n 1, 1) := by decide +kernel
theorem dX8_valueOfDigits_29 : decode cX8_valueOfDigits 29 = .ok (.iinc 2 1, 3) := by decide +kernel
theorem dX8_valueOfDigits_32 : decode cX8_valueOfDigits 32 = .ok (.goto (-25), 3) := by decide +kernel
theorem dX8_valueOfDigits_35 : decode cX8_valueOfDigits 35 = .ok (.iload_n 1, 1) := by decide +kernel
theorem dX8_valueOfDigits_36 : decode cX8_valueOfDigits 36 = .ok (.ireturn, 1) := by decide +kernel
theorem dX8_isWord_0 : decode cX8_isWord 0 = .ok (.aload_n 0, 1) := by decide +kernel
theorem dX8_isWord_1 : decode cX8_isWord 1 = .ok (.getfield 46, 3) := by decide +kernel
theorem dX8_isWord_4 : decode cX8_isWord 4 = .ok (.iconst 1, 1) := by decide +kernel
theorem dX8_isWord_5 : decode cX8_isWord 5 = .ok (.if_icmp .ne 19, 3) := by decide +kernel
theorem dX8_isWord_8 : decode cX8_isWord 8 = .ok (.aload_n 0, 1) := by decide +kernel
theorem dX8_isWord_9 : decode cX8_isWord 9 = .ok (.getfield 35, 3) := by decide +kernel
theorem dX8_isWord_12 : decode cX8_isWord 12 = .ok (.aload_n 0, 1) := by decide +kernel
theorem dX8_isWord_13 : decode cX8_isWord 13 = .ok (.getfield 161, 3) := by decide +kernel
theorem dX8_isWord_16 : decode cX8_isWord 16 = .ok (.isub, 1) := by decide +kernel
theorem dX8_isWord_17 : decode cX8_isWord 17 = .ok (.aload_n 1, 1) := by decide +kernel
theorem dX8_isWord_18 : decode cX8_isWord 18 = .ok (.invokevirtual 175, 3) := by decide +kernel
theorem dX8_isWord_21 : decode cX8_isWord 21 = .ok (.if_icmp .eq 5, 3) := by decide +kernel
theorem dX8_isWord_24 : decode cX8_isWord 24 = .ok (.iconst 0, 1) := by decide +kernel
theorem dX8_isWord_25 : decode cX8_isWord 25 = .ok (.ireturn, 1) := by decide +kernel
theorem dX8_isWord_26 : decode cX8_isWord 26 = .ok (.iconst 0, 1) := by decide +kernel
theorem dX8_isWord_27 : decode cX8_isWord 27 = .ok (.istore_n 2, 1) := by decide +kernel
theorem dX8_isWord_28 : decode cX8_isWord 28 = .ok (.iload_n 2, 1) := by decide +kernel
theorem dX8_isWord_29 : decode cX8_isWord 29 = .ok (.aload_n 1, 1) := by decide +kernel
theorem dX8_isWord_30 : decode cX8_isWord 30 = .ok (.invokevirtual 175, 3) := by decide +kernel
theorem dX8_isWord_33 : decode cX8_isWord 33 = .ok (.if_icmp .ge 29, 3) := by decide +kernel
theorem dX8_isWord_36 : decode cX8_isWord 36 = .ok (.aload_n 0, 1) := by decide +kernel
theorem dX8_isWord_37 : decode cX8_isWord 37 = .ok (.aload_n 0, 1) := by decide +kernel
theorem dX8_isWord_38 : decode cX8_isWord 38 = .ok (.getfield 161, 3) := by decide +kernel
theorem dX8_isWord_41 : decode cX8_isWord 41 = .ok (.iload_n 2, 1) := by decide +kernel
theorem dX8_isWord_42 : decode cX8_isWord 42 = .ok (.iadd, 1) := by decide +kernel
theorem dX8_isWord_43 : decode cX8_isWord 43 = .ok (.invokevirtual 164, 3) := by decide +kernel
theorem dX8_isWord_46 : decode cX8_isWord 46 = .ok (.aload_n 1, 1) := by decide +kernel
theorem dX8_isWord_47 : decode cX8_isWord 47 = .ok (.iload_n 2, 1) := by decide +kernel
theorem dX8_isWord_48 : decode cX8_isWord 48 = .ok (.invokevirtual 179, 3) := by decide +kernel
theorem dX8_isWord_51 : decode cX8_isWord 51 = .ok (.if_icmp .eq 5, 3) := by decide +kernel
theorem dX8_isWord_54 : decode cX8_isWord 54 = .ok (.iconst 0, 1) := by decide +kernel
theorem dX8_isWord_55 : decode cX8_isWord 55 = .ok (.ireturn, 1) := by decide +kernel
theorem dX8_isWord_56 : decode cX8_isWord 56 = .ok (.iinc 2 1, 3) := by decide +kernel
theorem dX8_isWord_59 : decode cX8_isWord 59 = .ok (.goto (-31), 3) := by decide +kernel
theorem dX8_isWord_62 : decode cX8_isWord 62 = .ok (.iconst 1, 1) := by decide +kernel
theorem dX8_isWord_63 : decode cX8_isWord 63 = .ok (.ireturn, 1) := by decide +kernel
theorem dX8_byteAt_0 : decode cX8_byteAt 0 = .ok (.aload_n 0, 1) := by decide +kernel
theorem dX8_byteAt_1 : decode cX8_byteAt 1 = .ok (.getfield 9, 3) := by decide +kernel
theorem dX8_byteAt_4 : decode cX8_byteAt 4 = .ok (.ifnull 29, 3) := by decide +kernel
theorem dX8_byteAt_7 : decode cX8_byteAt 7 = .ok (.iload_n 1, 1) := by decide +kernel
theorem dX8_byteAt_8 : decode cX8_byteAt 8 = .ok (.ifCond .lt 25, 3) := by decide +kernel
theorem dX8_byteAt_11 : decode cX8_byteAt 11 = .ok (.iload_n 1, 1) := by decide +kernel
theorem dX8_byteAt_12 : decode cX8_byteAt 12 = .ok (.aload_n 0, 1) := by decide +kernel
theorem dX8_byteAt_13 : decode cX8_byteAt 13 = .ok (.getfield 9, 3) := by decide +kernel
theorem dX8_byteAt_16 : decode cX8_byteAt 16 = .ok (.arraylength, 1) := by decide +kernel
theorem dX8_byteAt_17 : decode cX8_byteAt 17 = .ok (.if_icmp .ge 16, 3) := by decide +kernel
theorem dX8_byteAt_20 : decode cX8_byteAt 20 = .ok (.aload_n 0, 1) := by decide +kernel
theorem dX8_byteAt_21 : decode cX8_byteAt 21 = .ok (.getfield 9, 3) := by decide +kernel
theorem dX8_byteAt_24 : decode cX8_byteAt 24 = .ok (.iload_n 1, 1) := by decide +kernel
theorem dX8_byteAt_25 : decode cX8_byteAt 25 = .ok (.baload, 1) := by decide +kernel
theorem dX8_byteAt_26 : decode cX8_byteAt 26 = .ok (.sipush 255, 3) := by decide +kernel
theorem dX8_byteAt_29 : decode cX8_byteAt 29 = .ok (.iand, 1) := by decide +kernel
theorem dX8_byteAt_30 : decode cX8_byteAt 30 = .ok (.goto 4, 3) := by decide +kernel
theorem dX8_byteAt_33 : decode cX8_byteAt 33 = .ok (.iconst 0, 1) := by decide +kernel
theorem dX8_byteAt_34 : decode cX8_byteAt 34 = .ok (.ireturn, 1) := by decide +kernel
theorem dX9_init_0 : decode cX9_init 0 = .ok (.aload_n 0, 1) := by decide +kernel
theorem dX9_init_1 : decode cX9_init 1 = .ok (.invokespecial 3, 3) := by decide +kernel
theorem dX9_init_4 : decode cX9_init 4 = .ok (.aload_n 0, 1) := by decide +kernel
theorem dX9_init_5 : decode cX9_init 5 = .ok (.sipush 600, 3) := by decide +kernel
theorem dX9_init_8 : decode cX9_init 8 = .ok (.newarray .byte, 2) := by decide +kernel
theorem dX9_init_10 : decode cX9_init 10 = .ok (.putfield 9, 3) := by decide +kernel
theorem dX9_init_13 : decode cX9_init 13 = .ok (.aload_n 0, 1) := by decide +kernel
theorem dX9_init_14 : decode cX9_init 14 = .ok (.iconst (-1), 1) := by decide +kernel
theorem dX9_init_15 : decode cX9_init 15 = .ok (.putfield 13, 3) := by decide +kernel
theorem dX9_init_18 : decode cX9_init 18 = .ok (.aload_n 0, 1) := by decide +kernel
theorem dX9_init_19 : decode cX9_init 19 = .ok (.iconst (-1), 1) := by decide +kernel
theorem dX9_init_20 : decode cX9_init 20 = .ok (.putfield 17, 3) := by decide +kernel
theorem dX9_init_23 : decode cX9_init 23 = .ok (.aload_n 0, 1) := by decide +kernel
theorem dX9_init_24 : decode cX9_init 24 = .ok (.new 20, 3) := by decide +kernel
theorem dX9_init_27 : decode cX9_init 27 = .ok (.dup, 1) := by decide +kernel
theorem dX9_init_28 : decode cX9_init 28 = .ok (.invokespecial 22, 3) := by decide +kernel
theorem dX9_init_31 : decode cX9_init 31 = .ok (.putfield 23, 3) := by decide +kernel
theorem dX9_init_34 : decode cX9_init 34 = .ok (.aload_n 0, 1) := by decide +kernel
theorem dX9_init_35 : decode cX9_init 35 = .ok (.new 20, 3) := by decide +kernel
theorem dX9_init_38 : decode cX9_init 38 = .ok (.dup, 1) := by decide +kernel
theorem dX9_init_39 : decode cX9_init 39 = .ok (.invokespecial 22, 3) := by decide +kernel
theorem dX9_init_42 : decode cX9_init 42 = .ok (.putfield 27, 3) := by decide +kernel
theorem dX9_init_45 : decode cX9_init 45 = .ok (.aload_n 0, 1) := by decide +kernel
theorem dX9_init_46 : decode cX9_init 46 = .ok (.iconst 3, 1) := by decide +kernel
theorem dX9_init_47 : decode cX9_init 47 = .ok (.anewarray 20, 3) := by decide +kernel
theorem dX9_init_50 : decode cX9_init 50 = .ok (.putfield 30, 3) := by decide +kernel
theorem dX9_init_53 : decode cX9_init 53 = .ok (.iconst 0, 1) := by decide +kernel
theorem dX9_init_54 : decode cX9_init 54 = .ok (.istore_n 1, 1) := by decide +kernel
theorem dX9_init_55 : decode cX9_init 55 = .ok (.iload_n 1, 1) := by decide +kernel
theorem dX9_init_56 : decode cX9_init 56 = .ok (.aload_n 0, 1) := by decide +kernel
theorem dX9_init_57 : decode cX9_init 57 = .ok (.getfield 30, 3) := by decide +kernel
theorem dX9_init_60 : decode cX9_init 60 = .ok (.arraylength, 1) := by decide +kernel
theorem dX9_init_61 : decode cX9_init 61 = .ok (.if_icmp .ge 22, 3) := by decide +kernel
theorem dX9_init_64 : decode cX9_init 64 = .ok (.aload_n 0, 1) := by decide +kernel
theorem dX9_init_65 : decode cX9_init 65 = .ok (.getfield 30, 3) := by decide +kernel
theorem dX9_init_68 : decode cX9_init 68 = .ok (.iload_n 1, 1) := by decide +kernel
theorem dX9_init_69 : decode cX9_init 69 = .ok (.new 20, 3) := by decide +kernel
theorem dX9_init_72 : decode cX9_init 72 = .ok (.dup, 1) := by decide +kernel
theorem dX9_init_73 : decode cX9_init 73 = .ok (.invokespecial 22, 3) := by decide +kernel
theorem dX9_init_76 : decode cX9_init 76 = .ok (.aastore, 1) := by decide +kernel
theorem dX9_init_77 : decode cX9_init 77 = .ok (.iinc 1 1, 3) := by decide +kernel
theorem dX9_init_80 : decode cX9_init 80 = .ok (.goto (-25), 3) := by decide +kernel
theorem dX9_init_83 : decode cX9_init 83 = .ok (.aload_n 0, 1) := by decide +kernel
theorem dX9_init_84 : decode cX9_init 84 = .ok (.new 34, 3) := by decide +kernel
theorem dX9_init_87 : decode cX9_init 87 = .ok (.dup, 1) := by decide +kernel
theorem dX9_init_88 : decode cX9_init 88 = .ok (.invokespecial 36, 3) := by decide +kernel
theorem dX9_init_91 : decode cX9_init 91 = .ok (.putfield 37, 3) := by decide +kernel
theorem dX9_init_94 : decode cX9_init 94 = .ok (.aload_n 0, 1) := by decide +kernel
theorem dX9_init_95 : decode cX9_init 95 = .ok (.new 41, 3) := by decide +kernel
theorem dX9_init_98 : decode cX9_init 98 = .ok (.dup, 1) := by decide +kernel
theorem dX9_init_99 : decode cX9_init 99 = .ok (.invokespecial 43, 3) := by decide +kernel
theorem dX9_init_102 : decode cX9_init 102 = .ok (.putfield 44, 3) := by decide +kernel
theorem dX9_init_105 : decode cX9_init 105 = .ok (.return_, 1) := by decide +kernel
theorem dX9_status_0 : decode cX9_status 0 = .ok (.aload_n 0, 1) := by decide +kernel
theorem dX9_status_1 : decode cX9_status 1 = .ok (.getfield 48, 3) := by decide +kernel
theorem dX9_status_4 : decode cX9_status 4 = .ok (.ireturn, 1) := by decide +kernel
theorem dX9_feed_0 : decode cX9_feed 0 = .ok (.aload_n 0, 1) := by decide +kernel
theorem dX9_feed_1 : decode cX9_feed 1 = .ok (.getfield 51, 3) := by decide +kernel
theorem dX9_feed_4 : decode cX9_feed 4 = .ok (.bipush 20, 2) := by decide +kernel
theorem dX9_feed_6 : decode cX9_feed 6 = .ok (.iadd, 1) := by decide +kernel
theorem dX9_feed_7 : decode cX9_feed 7 = .ok (.sipush 600, 3) := by decide +kernel
theorem dX9_feed_10 : decode cX9_feed 10 = .ok (.if_icmp .le 5, 3) := by decide +kernel
theorem dX9_feed_13 : decode cX9_feed 13 = .ok (.iconst (-1), 1) := by decide +kernel
theorem dX9_feed_14 : decode cX9_feed 14 = .ok (.ireturn, 1) := by decide +kernel
theorem dX9_feed_15 : decode cX9_feed 15 = .ok (.aload_n 0, 1) := by decide +kernel
theorem dX9_feed_16 : decode cX9_feed 16 = .ok (.iload_n 1, 1) := by decide +kernel
theorem dX9_feed_17 : decode cX9_feed 17 = .ok (.invokevirtual 54, 3) := by decide +kernel
theorem dX9_feed_20 : decode cX9_feed 20 = .ok (.aload_n 0, 1) := by decide +kernel
theorem dX9_feed_21 : decode cX9_feed 21 = .ok (.iload_n 2, 1) := by decide +kernel
theorem dX9_feed_22 : decode cX9_feed 22 = .ok (.invokevirtual 54, 3) := by decide +kernel
theorem dX9_feed_25 : decode cX9_feed 25 = .ok (.aload_n 0, 1) := by decide +kernel
theorem dX9_feed_26 : decode cX9_feed 26 = .ok (.iload_n 3, 1) := by decide +kernel
theorem dX9_feed_27 : decode cX9_feed 27 = .ok (.invokevirtual 54, 3) := by decide +kernel
theorem dX9_feed_30 : decode cX9_feed 30 = .ok (.aload_n 0, 1) := by decide +kernel
theorem dX9_feed_31 : decode cX9_feed 31 = .ok (.iload 4, 2) := by decide +kernel
theorem dX9_feed_33 : decode cX9_feed 33 = .ok (.invokevirtual 54, 3) := by decide +kernel
theorem dX9_feed_36 : decode cX9_feed 36 = .ok (.aload_n 0, 1) := by decide +kernel
theorem dX9_feed_37 : decode cX9_feed 37 = .ok (.iload 5, 2) := by decide +kernel
theorem dX9_feed_39 : decode cX9_feed 39 = .ok (.invokevirtual 54, 3) := by decide +kernel
theorem dX9_feed_42 : decode cX9_feed 42 = .ok (.aload_n 0, 1) := by decide +kernel
theorem dX9_feed_43 : decode cX9_feed 43 = .ok (.getfield 51, 3) := by decide +kernel
theorem dX9_feed_46 : decode cX9_feed 46 = .ok (.ireturn, 1) := by decide +kernel
theorem dX9_load_0 : decode cX9_load 0 = .ok (.iload_n 1, 1) := by decide +kernel
theorem dX9_load_1 : decode cX9_load 1 = .ok (.ifCond .lt 11, 3) := by decide +kernel
theorem dX9_load_4 : decode cX9_load 4 = .ok (.iload_n 1, 1) := by decide +kernel
theorem dX9_load_5 : decode cX9_load 5 = .ok (.aload_n 0, 1) := by decide +kernel
theorem dX9_load_6 : decode cX9_load 6 = .ok (.getfield 51, 3) := by decide +kernel
theorem dX9_load_9 : decode cX9_load 9 = .ok (.if_icmp .le 9, 3) := by decide +kernel
theorem dX9_load_12 : decode cX9_load 12 = .ok (.aload_n 0, 1) := by decide +kernel
theorem dX9_load_13 : decode cX9_load 13 = .ok (.iconst 1, 1) := by decide +kernel
theorem dX9_load_14 : decode cX9_load 14 = .ok (.invokevirtual 58, 3) := by decide +kernel
theorem dX9_load_17 : decode cX9_load 17 = .ok (.ireturn, 1) := by decide +kernel
theorem dX9_load_18 : decode cX9_load 18 = .ok (.aload_n 0, 1) := by decide +kernel
theorem dX9_load_19 : decode cX9_load 19 = .ok (.getfield 37, 3) := by decide +kernel
theorem dX9_load_22 : decode cX9_load 22 = .ok (.aload_n 0, 1) := by decide +kernel
theorem dX9_load_23 : decode cX9_load 23 = .ok (.getfield 9, 3) := by decide +kernel
theorem dX9_load_26 : decode cX9_load 26 = .ok (.iload_n 1, 1) := by decide +kernel
theorem dX9_load_27 : decode cX9_load 27 = .ok (.aload_n 0, 1) := by decide +kernel
theorem dX9_load_28 : decode cX9_load 28 = .ok (.getfield 27, 3) := by decide +kernel
theorem dX9_load_31 : decode cX9_load 31 = .ok (.invokevirtual 62, 3) := by decide +kernel
theorem dX9_load_34 : decode cX9_load 34 = .ok (.istore_n 2, 1) := by decide +kernel
theorem dX9_load_35 : decode cX9_load 35 = .ok (.aload_n 0, 1) := by decide +kernel
theorem dX9_load_36 : decode cX9_load 36 = .ok (.iconst 0, 1) := by decide +kernel
theorem dX9_load_37 : decode cX9_load 37 = .ok (.putfield 51, 3) := by decide +kernel
theorem dX9_load_40 : decode cX9_load 40 = .ok (.aload_n 0, 1) := by decide +kernel
theorem dX9_load_41 : decode cX9_load 41 = .ok (.aload_n 0, 1) := by decide +kernel
theorem dX9_load_42 : decode cX9_load 42 = .ok (.getfield 37, 3) := by decide +kernel
theorem dX9_load_45 : decode cX9_load 45 = .ok (.getfield 66, 3) := by decide +kernel
theorem dX9_load_48 : decode cX9_load 48 = .ok (.putfield 13, 3) := by decide +kernel
theorem dX9_load_51 : decode cX9_load 51 = .ok (.aload_n 0, 1) := by decide +kernel
theorem dX9_load_52 : decode cX9_load 52 = .ok (.aload_n 0, 1) := by decide +kernel
theorem dX9_load_53 : decode cX9_load 53 = .ok (.getfield 37, 3) := by decide +kernel
theorem dX9_load_56 : decode cX9_load 56 = .ok (.getfield 69, 3) := by decide +kernel
theorem dX9_load_59 : decode cX9_load 59 = .ok (.putfield 17, 3) := by decide +kernel
theorem dX9_load_62 : decode cX9_load 62 = .ok (.iload_n 2, 1) := by decide +kernel
theorem dX9_load_63 : decode cX9_load 63 = .ok (.ifCond .ne 10, 3) := by decide +kernel
theorem dX9_load_66 : decode cX9_load 66 = .ok (.aload_n 0, 1) := by decide +kernel
theorem dX9_load_67 : decode cX9_load 67 = .ok (.bipush 9, 2) := by decide +kernel
theorem dX9_load_69 : decode cX9_load 69 = .ok (.invokevirtual 58, 3) := by decide +kernel
theorem dX9_load_72 : decode cX9_load 72 = .ok (.ireturn, 1) := by decide +kernel
theorem dX9_load_73 : decode cX9_load 73 = .ok (.aload_n 0, 1) := by decide +kernel
theorem dX9_load_74 : decode cX9_load 74 = .ok (.getfield 23, 3) := by decide +kernel
theorem dX9_load_77 : decode cX9_load 77 = .ok (.astore_n 3, 1) := by decide +kernel
theorem dX9_load_78 : decode cX9_load 78 = .ok (.aload_n 0, 1) := by decide +kernel
theorem dX9_load_79 : decode cX9_load 79 = .ok (.aload_n 0, 1) := by decide +kernel
theorem dX9_load_80 : decode cX9_load 80 = .ok (.getfield 27, 3) := by decide +kernel
theorem dX9_load_83 : decode cX9_load 83 = .ok (.putfield 23, 3) := by decide +kernel
theorem dX9_load_86 : decode cX9_load 86 = .ok (.aload_n 0, 1) := by decide +kernel
theorem dX9_load_87 : decode cX9_load 87 = .ok (.aload_n 3, 1) := by decide +kernel
theorem dX9_load_88 : decode cX9_load 88 = .ok (.putfield 27, 3) := by decide +kernel
theorem dX9_load_91 : decode cX9_load 91 = .ok (.aload_n 0, 1) := by decide +kernel
theorem dX9_load_92 : decode cX9_load 92 = .ok (.aload_n 0, 1) := by decide +kernel
theorem dX9_load_93 : decode cX9_load 93 = .ok (.getfield 23, 3) := by decide +kernel
theorem dX9_load_96 : decode cX9_load 96 = .ok (.getfield 72, 3) := by decide +kernel
theorem dX9_load_99 : decode cX9_load 99 = .ok (.invokevirtual 75, 3) := by decide +kernel
theorem dX9_load_102 : decode cX9_load 102 = .ok (.ireturn, 1) := by decide +kernel
theorem dX9_fault_0 : decode cX9_fault 0 = .ok (.iload_n 1, 1) := by decide +kernel
theorem dX9_fault_1 : decode cX9_fault 1 = .ok (.ifCond .ne 8, 3) := by decide +kernel
theorem dX9_fault_4 : decode cX9_fault 4 = .ok (.aload_n 0, 1) := by decide +kernel
theorem dX9_fault_5 : decode cX9_fault 5 = .ok (.getfield 13, 3) := by decide +kernel
theorem dX9_fault_8 : decode cX9_fault 8 = .ok (.ireturn, 1) := by decide +kernel
theorem dX9_fault_9 : decode cX9_fault 9 = .ok (.iload_n 1, 1) := by decide +kernel
theorem dX9_fault_10 : decode cX9_fault 10 = .ok (.iconst 1, 1) := by decide +kernel
theorem dX9_fault_11 : decode cX9_fault 11 = .ok (.if_icmp .ne 10, 3) := by decide +kernel
theorem dX9_fault_14 : decode cX9_fault 14 = .ok (.aload_n 0, 1) := by decide +kernel
theorem dX9_fault_15 : decode cX9_fault 15 = .ok (.getfield 17, 3) := by decide +kernel
theorem dX9_fault_18 : decode cX9_fault 18 = .ok (.goto 4, 3) := by decide +kernel
theorem dX9_fault_21 : decode cX9_fault 21 = .ok (.iconst (-1), 1) := by decide +kernel
theorem dX9_fault_22 : decode cX9_fault 22 = .ok (.ireturn, 1) := by decide +kernel
theorem dX9_many_0 : decode cX9_many 0 = .ok (.iload_n 1, 1) := by decide +kernel
theorem dX9_many_1 : decode cX9_many 1 = .ok (.tableswitch 178 0 9 #[55, 67, 79, 91, 100, 112, 124, 139, 154, 166], 55) := by decide +kernel
theorem dX9_many_56 : decode cX9_many 56 = .ok (.aload_n 0, 1) := by decide +kernel
theorem dX9_many_57 : decode cX9_many 57 = .ok (.aload_n 0, 1) := by decide +kernel
theorem dX9_many_58 : decode cX9_many 58 = .ok (.getfield 23, 3) := by decide +kernel
theorem dX9_many_61 : decode cX9_many 61 = .ok (.getfield 78, 3) := by decide +kernel
theorem dX9_many_64 : decode cX9_many 64 = .ok (.invokevirtual 75, 3) := by decide +kernel
theorem dX9_many_67 : decode cX9_many 67 = .ok (.ireturn, 1) := by decide +kernel
theorem dX9_many_68 : decode cX9_many 68 = .ok (.aload_n 0, 1) := by decide +kernel
theorem dX9_many_69 : decode cX9_many 69 = .ok (.aload_n 0, 1) := by decide +kernel
theorem dX9_many_70 : decode cX9_many 70 = .ok (.getfield 23, 3) := by decide +kernel
theorem dX9_many_73 : decode cX9_many 73 = .ok (.getfield 72, 3) := by decide +kernel
theorem dX9_many_76 : decode cX9_many 76 = .ok (.invokevirtual 75, 3) := by decide +kernel
theorem dX9_many_79 : decode cX9_many 79 = .ok (.ireturn, 1) := by decide +kernel
theorem dX9_many_80 : decode cX9_many 80 = .ok (.aload_n 0, 1) := by decide +kernel
theorem dX9_many_81 : decode cX9_many 81 = .ok (.aload_n 0, 1) := by decide +kernel
theorem dX9_many_82 : decode cX9_many 82 = .ok (.getfield 23, 3) := by decide +kernel
theorem dX9_many_85 : decode cX9_many 85 = .ok (.getfield 81, 3) := by decide +kernel
theorem dX9_many_88 : decode cX9_many 88 = .ok (.invokevirtual 75, 3) := by decide +kernel
theorem dX9_many_91 : decode cX9_many 91 = .ok (.ireturn, 1) := by decide +kernel
theorem dX9_many_92 : decode cX9_many 92 = .ok (.aload_n 0, 1) := by decide +kernel
theorem dX9_many_93 : decode cX9_many 93 = .ok (.aload_n 0, 1) := by decide +kernel
theorem dX9_many_94 : decode cX9_many 94 = .ok (.getfield 84, 3) := by decide +kernel
theorem dX9_many_97 : decode cX9_many 97 = .ok (.invokevirtual 75, 3) := by decide +kernel
theorem dX9_many_100 : decode cX9_many 100 = .ok (.ireturn, 1) := by decide +kernel
theorem dX9_many_101 : decode cX9_many 101 = .ok (.aload_n 0, 1) := by decide +kernel
theorem dX9_many_102 : decode cX9_many 102 = .ok (.aload_n 0, 1) := by decide +kernel
theorem dX9_many_103 : decode cX9_many 103 = .ok (.getfield 23, 3) := by decide +kernel
theorem dX9_many_106 : decode cX9_many 106 = .ok (.invokevirtual 87, 3) := by decide +kernel
theorem dX9_many_109 : decode cX9_many 109 = .ok (.invokevirtual 75, 3) := by decide +kernel
theorem dX9_many_112 : decode cX9_many 112 = .ok (.ireturn, 1) := by decide +kernel
theorem dX9_many_113 : decode cX9_many 113 = .ok (.aload_n 0, 1) := by decide +kernel
theorem dX9_many_114 : decode cX9_many 114 = .ok (.aload_n 0, 1) := by decide +kernel
theorem dX9_many_115 : decode cX9_many 115 = .ok (.getfield 23, 3) := by decide +kernel
theorem dX9_many_118 : decode cX9_many 118 = .ok (.invokevirtual 91, 3) := by decide +kernel
theorem dX9_many_121 : decode cX9_many 121 = .ok (.invokevirtual 75, 3) := by decide +kernel
theorem dX9_many_124 : decode cX9_many 124 = .ok (.ireturn, 1) := by decide +kernel
theorem dX9_many_125 : decode cX9_many 125 = .ok (.aload_n 0, 1) := by decide +kernel
theorem dX9_many_126 : decode cX9_many 126 = .ok (.aload_n 0, 1) := by decide +kernel
theorem dX9_many_127 : decode cX9_many 127 = .ok (.getfield 23, 3) := by decide +kernel
theorem dX9_many_130 : decode cX9_many 130 = .ok (.getfield 94, 3) := by decide +kernel
theorem dX9_many_133 : decode cX9_many 133 = .ok (.getfield 98, 3) := by decide +kernel
theorem dX9_many_136 : decode cX9_many 136 = .ok (.invokevirtual 75, 3) := by decide +kernel
theorem dX9_many_139 : decode cX9_many 139 = .ok (.ireturn, 1) := by decide +kernel
theorem dX9_many_140 : decode cX9_many 140 = .ok (.aload_n 0, 1) := by decide +kernel
theorem dX9_many_141 : decode cX9_many 141 = .ok (.aload_n 0, 1) := by decide +kernel
theorem dX9_many_142 : decode cX9_many 142 = .ok (.getfield 23, 3) := by decide +kernel
theorem dX9_many_145 : decode cX9_many 145 = .ok (.getfield 103, 3) := by decide +kernel
theorem dX9_many_148 : decode cX9_many 148 = .ok (.getfield 107, 3) := by decide +kernel
theorem dX9_many_151 : decode cX9_many 151 = .ok (.invokevirtual 75, 3) := by decide +kernel
theorem dX9_many_154 : decode cX9_many 154 = .ok (.ireturn, 1) := by decide +kernel
theorem dX9_many_155 : decode cX9_many 155 = .ok (.aload_n 0, 1) := by decide +kernel
theorem dX9_many_156 : decode cX9_many 156 = .ok (.aload_n 0, 1) := by decide +kernel
theorem dX9_many_157 : decode cX9_many 157 = .ok (.getfield 23, 3) := by decide +kernel
theorem dX9_many_160 : decode cX9_many 160 = .ok (.invokevirtual 112, 3) := by decide +kernel
theorem dX9_many_163 : decode cX9_many 163 = .ok (.invokevirtual 75, 3) := by decide +kernel
theorem dX9_many_166 : decode cX9_many 166 = .ok (.ireturn, 1) := by decide +kernel
theorem dX9_many_167 : decode cX9_many 167 = .ok (.aload_n 0, 1) := by decide +kernel
theorem dX9_many_168 : decode cX9_many 168 = .ok (.aload_n 0, 1) := by decide +kernel
theorem dX9_many_169 : decode cX9_many 169 = .ok (.getfield 23, 3) := by decide +kernel
theorem dX9_many_172 : decode cX9_many 172 = .ok (.invokevirtual 115, 3) := by decide +kernel
theorem dX9_many_175 : decode cX9_many 175 = .ok (.invokevirtual 75, 3) := by decide +kernel
theorem dX9_many_178 : decode cX9_many 178 = .ok (.ireturn, 1) := by decide +kernel
theorem dX9_many_179 : decode cX9_many 179 = .ok (.aload_n 0, 1) := by decide +kernel
theorem dX9_many_180 : decode cX9_many 180 = .ok (.iconst 1, 1) := by decide +kernel
theorem dX9_many_181 : decode cX9_many 181 = .ok (.invokevirtual 58, 3) := by decide +kernel
theorem dX9_many_184 : decode cX9_many 184 = .ok (.ireturn, 1) := by decide +kernel
theorem dX9_link_0 : decode cX9_link 0 = .ok (.iload_n 2, 1) := by decide +kernel
theorem dX9_link_1 : decode cX9_link 1 = .ok (.ifCond .lt 9, 3) := by decide +kernel
theorem dX9_link_4 : decode cX9_link 4 = .ok (.iload_n 2, 1) := by decide +kernel
theorem dX9_link_5 : decode cX9_link 5 = .ok (.bipush 17, 2) := by decide +kernel
theorem dX9_link_7 : decode cX9_link 7 = .ok (.if_icmp .le 9, 3) := by decide +kernel
theorem dX9_link_10 : decode cX9_link 10 = .ok (.aload_n 0, 1) := by decide +kernel
theorem dX9_link_11 : decode cX9_link 11 = .ok (.iconst 1, 1) := by decide +kernel
theorem dX9_link_12 : decode cX9_link 12 = .ok (.invokevirtual 58, 3) := by decide +kernel
theorem dX9_link_15 : decode cX9_link 15 = .ok (.ireturn, 1) := by decide +kernel
theorem dX9_link_16 : decode cX9_link 16 = .ok (.aload_n 0, 1) := by decide +kernel
theorem dX9_link_17 : decode cX9_link 17 = .ok (.getfield 23, 3) := by decide +kernel
theorem dX9_link_20 : decode cX9_link 20 = .ok (.iload_n 1, 1) := by decide +kernel
theorem dX9_link_21 : decode cX9_link 21 = .ok (.invokevirtual 118, 3) := by decide +kernel
theorem dX9_link_24 : decode cX9_link 24 = .ok (.astore_n 3, 1) := by decide +kernel
theorem dX9_link_25 : decode cX9_link 25 = .ok (.aload_n 3, 1) := by decide +kernel
theorem dX9_link_26 : decode cX9_link 26 = .ok (.ifnonnull 9, 3) := by decide +kernel
theorem dX9_link_29 : decode cX9_link 29 = .ok (.aload_n 0, 1) := by decide +kernel
theorem dX9_link_30 : decode cX9_link 30 = .ok (.iconst 2, 1) := by decide +kernel
theorem dX9_link_31 : decode cX9_link 31 = .ok (.invokevirtual 58, 3) := by decide +kernel
theorem dX9_link_34 : decode cX9_link 34 = .ok (.ireturn, 1) := by decide +kernel
theorem dX9_link_35 : decode cX9_link 35 = .ok (.aload_n 0, 1) := by decide +kernel
theorem dX9_link_36 : decode cX9_link 36 = .ok (.aload_n 3, 1) := by decide +kernel
theorem dX9_link_37 : decode cX9_link 37 = .ok (.iload_n 2, 1) := by decide +kernel
theorem dX9_link_38 : decode cX9_link 38 = .ok (.invokevirtual 122, 3) := by decide +kernel
theorem dX9_link_41 : decode cX9_link 41 = .ok (.invokevirtual 75, 3) := by decide +kernel
theorem dX9_link_44 : decode cX9_link 44 = .ok (.ireturn, 1) := by decide +kernel
theorem dX9_flow_0 : decode cX9_flow 0 = .ok (.iload_n 2, 1) := by decide +kernel
theorem dX9_flow_1 : decode cX9_flow 1 = .ok (.ifCond .lt 9, 3) := by decide +kernel
theorem dX9_flow_4 : decode cX9_flow 4 = .ok (.iload_n 2, 1) := by decide +kernel
theorem dX9_flow_5 : decode cX9_flow 5 = .ok (.bipush 11, 2) := by decide +kernel
theorem dX9_flow_7 : decode cX9_flow 7 = .ok (.if_icmp .le 9, 3) := by decide +kernel
theorem dX9_flow_10 : decode cX9_flow 10 = .ok (.aload_n 0, 1) := by decide +kernel
theorem dX9_flow_11 : decode cX9_flow 11 = .ok (.iconst 1, 1) := by decide +kernel
theorem dX9_flow_12 : decode cX9_flow 12 = .ok (.invokevirtual 58, 3) := by decide +kernel
theorem dX9_flow_15 : decode cX9_flow 15 = .ok (.ireturn, 1) := by decide +kernel
theorem dX9_flow_16 : decode cX9_flow 16 = .ok (.aload_n 0, 1) := by decide +kernel
theorem dX9_flow_17 : decode cX9_flow 17 = .ok (.getfield 23, 3) := by decide +kernel
theorem dX9_flow_20 : decode cX9_flow 20 = .ok (.iload_n 1, 1) := by decide +kernel
theorem dX9_flow_21 : decode cX9_flow 21 = .ok (.invokevirtual 127, 3) := by decide +kernel
theorem dX9_flow_24 : decode cX9_flow 24 = .ok (.astore_n 3, 1) := by decide +kernel
theorem dX9_flow_25 : decode cX9_flow 25 = .ok (.aload_n 3, 1) := by decide +kernel
theorem dX9_flow_26 : decode cX9_flow 26 = .ok (.ifnonnull 9, 3) := by decide +kernel
theorem dX9_flow_29 : decode cX9_flow 29 = .ok (.aload_n 0, 1) := by decide +kernel
theorem dX9_flow_30 : decode cX9_flow 30 = .ok (.iconst 2, 1) := by decide +kernel
theorem dX9_flow_31 : decode cX9_flow 31 = .ok (.invokevirtual 58, 3) := by decide +kernel
theorem dX9_flow_34 : decode cX9_flow 34 = .ok (.ireturn, 1) := by decide +kernel
theorem dX9_flow_35 : decode cX9_flow 35 = .ok (.aload_n 0, 1) := by decide +kernel
theorem dX9_flow_36 : decode cX9_flow 36 = .ok (.iload_n 2, 1) := by decide +kernel
theorem dX9_flow_37 : decode cX9_flow 37 = .ok (.bipush 11, 2) := by decide +kernel
theorem dX9_flow_39 : decode cX9_flow 39 = .ok (.if_icmp .ne 14, 3) := by decide +kernel
theorem dX9_flow_42 : decode cX9_flow 42 = .ok (.aload_n 0, 1) := by decide +kernel
theorem dX9_flow_43 : decode cX9_flow 43 = .ok (.getfield 23, 3) := by decide +kernel
theorem dX9_flow_46 : decode cX9_flow 46 = .ok (.iload_n 1, 1) := by decide +kernel
theorem dX9_flow_47 : decode cX9_flow 47 = .ok (.invokevirtual 131, 3) := by decide +kernel
theorem dX9_flow_50 : decode cX9_flow 50 = .ok (.goto 8, 3) := by decide +kernel
theorem dX9_flow_53 : decode cX9_flow 53 = .ok (.aload_n 3, 1) := by decide +kernel
theorem dX9_flow_54 : decode cX9_flow 54 = .ok (.iload_n 2, 1) := by decide +kernel
theorem dX9_flow_55 : decode cX9_flow 55 = .ok (.invokevirtual 134, 3) := by decide +kernel
theorem dX9_flow_58 : decode cX9_flow 58 = .ok (.invokevirtual 75, 3) := by decide +kernel
theorem dX9_flow_61 : decode cX9_flow 61 = .ok (.ireturn, 1) := by decide +kernel
theorem dX9_path_0 : decode cX9_path 0 = .ok (.iload_n 2, 1) := by decide +kernel
theorem dX9_path_1 : decode cX9_path 1 = .ok (.ifCond .ge 9, 3) := by decide +kernel
theorem dX9_path_4 : decode cX9_path 4 = .ok (.aload_n 0, 1) := by decide +kernel
theorem dX9_path_5 : decode cX9_path 5 = .ok (.iconst 1, 1) := by decide +kernel
theorem dX9_path_6 : decode cX9_path 6 = .ok (.invokevirtual 58, 3) := by decide +kernel
theorem dX9_path_9 : decode cX9_path 9 = .ok (.ireturn, 1) := by decide +kernel
theorem dX9_path_10 : decode cX9_path 10 = .ok (.aload_n 0, 1) := by decide +kernel
theorem dX9_path_11 : decode cX9_path 11 = .ok (.getfield 23, 3) := by decide +kernel
theorem dX9_path_14 : decode cX9_path 14 = .ok (.iload_n 1, 1) := by decide +kernel
theorem dX9_path_15 : decode cX9_path 15 = .ok (.invokevirtual 127, 3) := by decide +kernel
theorem dX9_path_18 : decode cX9_path 18 = .ok (.astore_n 3, 1) := by decide +kernel
theorem dX9_path_19 : decode cX9_path 19 = .ok (.aload_n 3, 1) := by decide +kernel
theorem dX9_path_20 : decode cX9_path 20 = .ok (.ifnonnull 9, 3) := by decide +kernel
theorem dX9_path_23 : decode cX9_path 23 = .ok (.aload_n 0, 1) := by decide +kernel
theorem dX9_path_24 : decode cX9_path 24 = .ok (.iconst 2, 1) := by decide +kernel
theorem dX9_path_25 : decode cX9_path 25 = .ok (.invokevirtual 58, 3) := by decide +kernel
theorem dX9_path_28 : decode cX9_path 28 = .ok (.ireturn, 1) := by decide +kernel
theorem dX9_path_29 : decode cX9_path 29 = .ok (.iload_n 2, 1) := by decide +kernel
theorem dX9_path_30 : decode cX9_path 30 = .ok (.aload_n 3, 1) := by decide +kernel
theorem dX9_path_31 : decode cX9_path 31 = .ok (.getfield 137, 3) := by decide +kernel
theorem dX9_path_34 : decode cX9_path 34 = .ok (.if_icmp .lt 9, 3) := by decide +kernel
theorem dX9_path_37 : decode cX9_path 37 = .ok (.aload_n 0, 1) := by decide +kernel
theorem dX9_path_38 : decode cX9_path 38 = .ok (.iconst 5, 1) := by decide +kernel
theorem dX9_path_39 : decode cX9_path 39 = .ok (.invokevirtual 58, 3) := by decide +kernel
theorem dX9_path_42 : decode cX9_path 42 = .ok (.ireturn, 1) := by decide +kernel
theorem dX9_path_43 : decode cX9_path 43 = .ok (.aload_n 0, 1) := by decide +kernel
theorem dX9_path_44 : decode cX9_path 44 = .ok (.aload_n 3, 1) := by decide +kernel
theorem dX9_path_45 : decode cX9_path 45 = .ok (.iload_n 2, 1) := by decide +kernel
theorem dX9_path_46 : decode cX9_path 46 = .ok (.invokevirtual 140, 3) := by decide +kernel
theorem dX9_path_49 : decode cX9_path 49 = .ok (.invokevirtual 75, 3) := by decide +kernel
theorem dX9_path_52 : decode cX9_path 52 = .ok (.ireturn, 1) := by decide +kernel
theorem dX9_packet_0 : decode cX9_packet 0 = .ok (.iload_n 2, 1) := by decide +kernel
theorem dX9_packet_1 : decode cX9_packet 1 = .ok (.ifCond .lt 13, 3) := by decide +kernel
theorem dX9_packet_4 : decode cX9_packet 4 = .ok (.iload_n 3, 1) := by decide +kernel
theorem dX9_packet_5 : decode cX9_packet 5 = .ok (.ifCond .lt 9, 3) := by decide +kernel
theorem dX9_packet_8 : decode cX9_packet 8 = .ok (.iload_n 3, 1) := by decide +kernel
theorem dX9_packet_9 : decode cX9_packet 9 = .ok (.bipush 6, 2) := by decide +kernel
theorem dX9_packet_11 : decode cX9_packet 11 = .ok (.if_icmp .le 9, 3) := by decide +kernel
theorem dX9_packet_14 : decode cX9_packet 14 = .ok (.aload_n 0, 1) := by decide +kernel
theorem dX9_packet_15 : decode cX9_packet 15 = .ok (.iconst 1, 1) := by decide +kernel
theorem dX9_packet_16 : decode cX9_packet 16 = .ok (.invokevirtual 58, 3) := by decide +kernel
theorem dX9_packet_19 : decode cX9_packet 19 = .ok (.ireturn, 1) := by decide +kernel
theorem dX9_packet_20 : decode cX9_packet 20 = .ok (.aload_n 0, 1) := by decide +kernel
theorem dX9_packet_21 : decode cX9_packet 21 = .ok (.getfield 23, 3) := by decide +kernel
theorem dX9_packet_24 : decode cX9_packet 24 = .ok (.iload_n 1, 1) := by decide +kernel
theorem dX9_packet_25 : decode cX9_packet 25 = .ok (.invokevirtual 118, 3) := by decide +kernel
theorem dX9_packet_28 : decode cX9_packet 28 = .ok (.astore 4, 2) := by decide +kernel
theorem dX9_packet_30 : decode cX9_packet 30 = .ok (.aload 4, 2) := by decide +kernel
theorem dX9_packet_32 : decode cX9_packet 32 = .ok (.ifnonnull 9, 3) := by decide +kernel
theorem dX9_packet_35 : decode cX9_packet 35 = .ok (.aload_n 0, 1) := by decide +kernel
theorem dX9_packet_36 : decode cX9_packet 36 = .ok (.iconst 2, 1) := by decide +kernel
theorem dX9_packet_37 : decode cX9_packet 37 = .ok (.invokevirtual 58, 3) := by decide +kernel
theorem dX9_packet_40 : decode cX9_packet 40 = .ok (.ireturn, 1) := by decide +kernel
theorem dX9_packet_41 : decode cX9_packet 41 = .ok (.aload 4, 2) := by decide +kernel
theorem dX9_packet_43 : decode cX9_packet 43 = .ok (.getfield 143, 3) := by decide +kernel
theorem dX9_packet_46 : decode cX9_packet 46 = .ok (.iload_n 2, 1) := by decide +kernel
theorem dX9_packet_47 : decode cX9_packet 47 = .ok (.invokevirtual 146, 3) := by decide +kernel
theorem dX9_packet_50 : decode cX9_packet 50 = .ok (.astore 5, 2) := by decide +kernel
theorem dX9_packet_52 : decode cX9_packet 52 = .ok (.aload 5, 2) := by decide +kernel
theorem dX9_packet_54 : decode cX9_packet 54 = .ok (.ifnonnull 9, 3) := by decide +kernel
theorem dX9_packet_57 : decode cX9_packet 57 = .ok (.aload_n 0, 1) := by decide +kernel
theorem dX9_packet_58 : decode cX9_packet 58 = .ok (.iconst 5, 1) := by decide +kernel
theorem dX9_packet_59 : decode cX9_packet 59 = .ok (.invokevirtual 58, 3) := by decide +kernel
theorem dX9_packet_62 : decode cX9_packet 62 = .ok (.ireturn, 1) := by decide +kernel
theorem dX9_packet_63 : decode cX9_packet 63 = .ok (.aload_n 0, 1) := by decide +kernel
theorem dX9_packet_64 : decode cX9_packet 64 = .ok (.iload_n 3, 1) := by decide +kernel
theorem dX9_packet_65 : decode cX9_packet 65 = .ok (.bipush 6, 2) := by decide +kernel
theorem dX9_packet_67 : decode cX9_packet 67 = .ok (.if_icmp .ne 19, 3) := by decide +kernel
theorem dX9_packet_70 : decode cX9_packet 70 = .ok (.aload 4, 2) := by decide +kernel
theorem dX9_packet_72 : decode cX9_packet 72 = .ok (.getfield 150, 3) := by decide +kernel
theorem dX9_packet_75 : decode cX9_packet 75 = .ok (.aload 5, 2) := by decide +kernel
theorem dX9_packet_77 : decode cX9_packet 77 = .ok (.getfield 154, 3) := by decide +kernel
theorem dX9_packet_80 : decode cX9_packet 80 = .ok (.invokevirtual 160, 3) := by decide +kernel
theorem dX9_packet_83 : decode cX9_packet 83 = .ok (.goto 9, 3) := by decide +kernel
theorem dX9_packet_86 : decode cX9_packet 86 = .ok (.aload 5, 2) := by decide +kernel
theorem dX9_packet_88 : decode cX9_packet 88 = .ok (.iload_n 3, 1) := by decide +kernel
theorem dX9_packet_89 : decode cX9_packet 89 = .ok (.invokevirtual 166, 3) := by decide +kernel
theorem dX9_packet_92 : decode cX9_packet 92 = .ok (.invokevirtual 75, 3) := by decide +kernel
theorem dX9_packet_95 : decode cX9_packet 95 = .ok (.ireturn, 1) := by decide +kernel
theorem dX9_event_0 : decode cX9_event 0 = .ok (.iload_n 1, 1) := by decide +kernel
theorem dX9_event_1 : decode cX9_event 1 = .ok (.ifCond .lt 18, 3) := by decide +kernel
theorem dX9_event_4 : decode cX9_event 4 = .ok (.iload_n 1, 1) := by decide +kernel
theorem dX9_event_5 : decode cX9_event 5 = .ok (.bipush 24, 2) := by decide +kernel
theorem dX9_event_7 : decode cX9_event 7 = .ok (.if_icmp .ge 12, 3) := by decide +kernel
theorem dX9_event_10 : decode cX9_event 10 = .ok (.iload_n 2, 1) := by decide +kernel
theorem dX9_event_11 : decode cX9_event 11 = .ok (.ifCond .lt 8, 3) := by decide +kernel
theorem dX9_event_14 : decode cX9_event 14 = .ok (.iload_n 2, 1) := by decide +kernel
theorem dX9_event_15 : decode cX9_event 15 = .ok (.iconst 3, 1) := by decide +kernel
theorem dX9_event_16 : decode cX9_event 16 = .ok (.if_icmp .le 9, 3) := by decide +kernel
theorem dX9_event_19 : decode cX9_event 19 = .ok (.aload_n 0, 1) := by decide +kernel
theorem dX9_event_20 : decode cX9_event 20 = .ok (.iconst 1, 1) := by decide +kernel
theorem dX9_event_21 : decode cX9_event 21 = .ok (.invokevirtual 58, 3) := by decide +kernel
theorem dX9_event_24 : decode cX9_event 24 = .ok (.ireturn, 1) := by decide +kernel
theorem dX9_event_25 : decode cX9_event 25 = .ok (.iload_n 1, 1) := by decide +kernel
theorem dX9_event_26 : decode cX9_event 26 = .ok (.aload_n 0, 1) := by decide +kernel
theorem dX9_event_27 : decode cX9_event 27 = .ok (.getfield 23, 3) := by decide +kernel
theorem dX9_event_30 : decode cX9_event 30 = .ok (.getfield 103, 3) := by decide +kernel
theorem dX9_event_33 : decode cX9_event 33 = .ok (.getfield 107, 3) := by decide +kernel
theorem dX9_event_36 : decode cX9_event 36 = .ok (.if_icmp .lt 9, 3) := by decide +kernel
theorem dX9_event_39 : decode cX9_event 39 = .ok (.aload_n 0, 1) := by decide +kernel
theorem dX9_event_40 : decode cX9_event 40 = .ok (.iconst 5, 1) := by decide +kernel
theorem dX9_event_41 : decode cX9_event 41 = .ok (.invokevirtual 58, 3) := by decide +kernel
theorem dX9_event_44 : decode cX9_event 44 = .ok (.ireturn, 1) := by decide +kernel
theorem dX9_event_45 : decode cX9_event 45 = .ok (.aload_n 0, 1) := by decide +kernel
theorem dX9_event_46 : decode cX9_event 46 = .ok (.aload_n 0, 1) := by decide +kernel
theorem dX9_event_47 : decode cX9_event 47 = .ok (.getfield 23, 3) := by decide +kernel
theorem dX9_event_50 : decode cX9_event 50 = .ok (.getfield 103, 3) := by decide +kernel
theorem dX9_event_53 : decode cX9_event 53 = .ok (.iload_n 1, 1) := by decide +kernel
theorem dX9_event_54 : decode cX9_event 54 = .ok (.iload_n 2, 1) := by decide +kernel
theorem dX9_event_55 : decode cX9_event 55 = .ok (.invokevirtual 167, 3) := by decide +kernel
theorem dX9_event_58 : decode cX9_event 58 = .ok (.invokevirtual 75, 3) := by decide +kernel
theorem dX9_event_61 : decode cX9_event 61 = .ok (.ireturn, 1) := by decide +kernel
theorem dX9_given_0 : decode cX9_given 0 = .ok (.iload_n 2, 1) := by decide +kernel
theorem dX9_given_1 : decode cX9_given 1 = .ok (.ifCond .lt 8, 3) := by decide +kernel
theorem dX9_given_4 : decode cX9_given 4 = .ok (.iload_n 2, 1) := by decide +kernel
theorem dX9_given_5 : decode cX9_given 5 = .ok (.iconst 1, 1) := by decide +kernel
theorem dX9_given_6 : decode cX9_given 6 = .ok (.if_icmp .le 9, 3) := by decide +kernel
theorem dX9_given_9 : decode cX9_given 9 = .ok (.aload_n 0, 1) := by decide +kernel
theorem dX9_given_10 : decode cX9_given 10 = .ok (.iconst 1, 1) := by decide +kernel
theorem dX9_given_11 : decode cX9_given 11 = .ok (.invokevirtual 58, 3) := by decide +kernel
theorem dX9_given_14 : decode cX9_given 14 = .ok (.ireturn, 1) := by decide +kernel
theorem dX9_given_15 : decode cX9_given 15 = .ok (.aload_n 0, 1) := by decide +kernel
theorem dX9_given_16 : decode cX9_given 16 = .ok (.getfield 23, 3) := by decide +kernel
theorem dX9_given_19 : decode cX9_given 19 = .ok (.iload_n 1, 1) := by decide +kernel
theorem dX9_given_20 : decode cX9_given 20 = .ok (.invokevirtual 118, 3) := by decide +kernel
theorem dX9_given_23 : decode cX9_given 23 = .ok (.astore_n 3, 1) := by decide +kernel
theorem dX9_given_24 : decode cX9_given 24 = .ok (.aload_n 3, 1) := by decide +kernel
theorem dX9_given_25 : decode cX9_given 25 = .ok (.ifnonnull 9, 3) := by decide +kernel
theorem dX9_given_28 : decode cX9_given 28 = .ok (.aload_n 0, 1) := by decide +kernel
theorem dX9_given_29 : decode cX9_given 29 = .ok (.iconst 2, 1) := by decide +kernel
theorem dX9_given_30 : decode cX9_given 30 = .ok (.invokevirtual 58, 3) := by decide +kernel
theorem dX9_given_33 : decode cX9_given 33 = .ok (.ireturn, 1) := by decide +kernel
theorem dX9_given_34 : decode cX9_given 34 = .ok (.aload_n 3, 1) := by decide +kernel
theorem dX9_given_35 : decode cX9_given 35 = .ok (.getfield 150, 3) := by decide +kernel
theorem dX9_given_38 : decode cX9_given 38 = .ok (.astore 4, 2) := by decide +kernel
theorem dX9_given_40 : decode cX9_given 40 = .ok (.aload_n 0, 1) := by decide +kernel
theorem dX9_given_41 : decode cX9_given 41 = .ok (.iload_n 2, 1) := by decide +kernel
theorem dX9_given_42 : decode cX9_given 42 = .ok (.ifCond .ne 16, 3) := by decide +kernel
theorem dX9_given_45 : decode cX9_given 45 = .ok (.aload 4, 2) := by decide +kernel
theorem dX9_given_47 : decode cX9_given 47 = .ok (.aload 4, 2) := by decide +kernel
theorem dX9_given_49 : decode cX9_given 49 = .ok (.getfield 170, 3) := by decide +kernel
theorem dX9_given_52 : decode cX9_given 52 = .ok (.invokevirtual 173, 3) := by decide +kernel
theorem dX9_given_55 : decode cX9_given 55 = .ok (.goto 13, 3) := by decide +kernel
theorem dX9_given_58 : decode cX9_given 58 = .ok (.aload 4, 2) := by decide +kernel
theorem dX9_given_60 : decode cX9_given 60 = .ok (.aload 4, 2) := by decide +kernel
theorem dX9_given_62 : decode cX9_given 62 = .ok (.getfield 177, 3) := by decide +kernel
theorem dX9_given_65 : decode cX9_given 65 = .ok (.invokevirtual 180, 3) := by decide +kernel
theorem dX9_given_68 : decode cX9_given 68 = .ok (.l2i, 1) := by decide +kernel
theorem dX9_given_69 : decode cX9_given 69 = .ok (.invokevirtual 75, 3) := by decide +kernel
theorem dX9_given_72 : decode cX9_given 72 = .ok (.ireturn, 1) := by decide +kernel
theorem dX9_where_0 : decode cX9_where 0 = .ok (.iload_n 2, 1) := by decide +kernel
theorem dX9_where_1 : decode cX9_where 1 = .ok (.ifCond .lt 8, 3) := by decide +kernel
theorem dX9_where_4 : decode cX9_where 4 = .ok (.iload_n 2, 1) := by decide +kernel
theorem dX9_where_5 : decode cX9_where 5 = .ok (.iconst 3, 1) := by decide +kernel
theorem dX9_where_6 : decode cX9_where 6 = .ok (.if_icmp .le 9, 3) := by decide +kernel
theorem dX9_where_9 : decode cX9_where 9 = .ok (.aload_n 0, 1) := by decide +kernel
theorem dX9_where_10 : decode cX9_where 10 = .ok (.iconst 1, 1) := by decide +kernel
theorem dX9_where_11 : decode cX9_where 11 = .ok (.invokevirtual 58, 3) := by decide +kernel
theorem dX9_where_14 : decode cX9_where 14 = .ok (.ireturn, 1) := by decide +kernel
theorem dX9_where_15 : decode cX9_where 15 = .ok (.aload_n 0, 1) := by decide +kernel
theorem dX9_where_16 : decode cX9_where 16 = .ok (.getfield 23, 3) := by decide +kernel
theorem dX9_where_19 : decode cX9_where 19 = .ok (.iload_n 1, 1) := by decide +kernel
theorem dX9_where_20 : decode cX9_where 20 = .ok (.invokevirtual 127, 3) := by decide +kernel
theorem dX9_where_23 : decode cX9_where 23 = .ok (.ifnonnull 9, 3) := by decide +kernel
theorem dX9_where_26 : decode cX9_where 26 = .ok (.aload_n 0, 1) := by decide +kernel
theorem dX9_where_27 : decode cX9_where 27 = .ok (.iconst 2, 1) := by decide +kernel
theorem dX9_where_28 : decode cX9_where 28 = .ok (.invokevirtual 58, 3) := by decide +kernel
theorem dX9_where_31 : decode cX9_where 31 = .ok (.ireturn, 1) := by decide +kernel
theorem dX9_where_32 : decode cX9_where 32 = .ok (.iload_n 2, 1) := by decide +kernel
theorem dX9_where_33 : decode cX9_where 33 = .ok (.tableswitch 69 0 2 #[27, 40, 53], 27) := by decide +kernel
theorem dX9_where_60 : decode cX9_where 60 = .ok (.aload_n 0, 1) := by decide +kernel
theorem dX9_where_61 : decode cX9_where 61 = .ok (.aload_n 0, 1) := by decide +kernel
theorem dX9_where_62 : decode cX9_where 62 = .ok (.getfield 23, 3) := by decide +kernel
theorem dX9_where_65 : decode cX9_where 65 = .ok (.iload_n 1, 1) := by decide +kernel
theorem dX9_where_66 : decode cX9_where 66 = .ok (.invokevirtual 183, 3) := by decide +kernel
theorem dX9_where_69 : decode cX9_where 69 = .ok (.invokevirtual 75, 3) := by decide +kernel
theorem dX9_where_72 : decode cX9_where 72 = .ok (.ireturn, 1) := by decide +kernel
theorem dX9_where_73 : decode cX9_where 73 = .ok (.aload_n 0, 1) := by decide +kernel
theorem dX9_where_74 : decode cX9_where 74 = .ok (.aload_n 0, 1) := by decide +kernel
theorem dX9_where_75 : decode cX9_where 75 = .ok (.getfield 23, 3) := by decide +kernel
theorem dX9_where_78 : decode cX9_where 78 = .ok (.iload_n 1, 1) := by decide +kernel
theorem dX9_where_79 : decode cX9_where 79 = .ok (.invokevirtual 186, 3) := by decide +kernel
theorem dX9_where_82 : decode cX9_where 82 = .ok (.invokevirtual 75, 3) := by decide +kernel
theorem dX9_where_85 : decode cX9_where 85 = .ok (.ireturn, 1) := by decide +kernel
theorem dX9_where_86 : decode cX9_where 86 = .ok (.aload_n 0, 1) := by decide +kernel
theorem dX9_where_87 : decode cX9_where 87 = .ok (.aload_n 0, 1) := by decide +kernel
theorem dX9_where_88 : decode cX9_where 88 = .ok (.getfield 23, 3) := by decide +kernel
theorem dX9_where_91 : decode cX9_where 91 = .ok (.getfield 94, 3) := by decide +kernel
theorem dX9_where_94 : decode cX9_where 94 = .ok (.iload_n 1, 1) := by decide +kernel
theorem dX9_where_95 : decode cX9_where 95 = .ok (.invokevirtual 189, 3) := by decide +kernel
theorem dX9_where_98 : decode cX9_where 98 = .ok (.invokevirtual 75, 3) := by decide +kernel
theorem dX9_where_101 : decode cX9_where 101 = .ok (.ireturn, 1) := by decide +kernel
theorem dX9_where_102 : decode cX9_where 102 = .ok (.aload_n 0, 1) := by decide +kernel
theorem dX9_where_103 : decode cX9_where 103 = .ok (.aload_n 0, 1) := by decide +kernel
theorem dX9_where_104 : decode cX9_where 104 = .ok (.getfield 23, 3) := by decide +kernel
theorem dX9_where_107 : decode cX9_where 107 = .ok (.getfield 94, 3) := by decide +kernel
theorem dX9_where_110 : decode cX9_where 110 = .ok (.iload_n 1, 1) := by decide +kernel
theorem dX9_where_111 : decode cX9_where 111 = .ok (.invokevirtual 192, 3) := by decide +kernel
theorem dX9_where_114 : decode cX9_where 114 = .ok (.invokevirtual 75, 3) := by decide +kernel
theorem dX9_where_117 : decode cX9_where 117 = .ok (.ireturn, 1) := by decide +kernel
theorem dX9_eldest_0 : decode cX9_eldest 0 = .ok (.aload_n 0, 1) := by decide +kernel
theorem dX9_eldest_1 : decode cX9_eldest 1 = .ok (.getfield 23, 3) := by decide +kernel
theorem dX9_eldest_4 : decode cX9_eldest 4 = .ok (.iload_n 1, 1) := by decide +kernel
theorem dX9_eldest_5 : decode cX9_eldest 5 = .ok (.invokevirtual 127, 3) := by decide +kernel
theorem dX9_eldest_8 : decode cX9_eldest 8 = .ok (.ifnonnull 9, 3) := by decide +kernel
theorem dX9_eldest_11 : decode cX9_eldest 11 = .ok (.aload_n 0, 1) := by decide +kernel
theorem dX9_eldest_12 : decode cX9_eldest 12 = .ok (.iconst 2, 1) := by decide +kernel
theorem dX9_eldest_13 : decode cX9_eldest 13 = .ok (.invokevirtual 58, 3) := by decide +kernel
theorem dX9_eldest_16 : decode cX9_eldest 16 = .ok (.ireturn, 1) := by decide +kernel
theorem dX9_eldest_17 : decode cX9_eldest 17 = .ok (.aload_n 0, 1) := by decide +kernel
theorem dX9_eldest_18 : decode cX9_eldest 18 = .ok (.getfield 23, 3) := by decide +kernel
theorem dX9_eldest_21 : decode cX9_eldest 21 = .ok (.iload_n 1, 1) := by decide +kernel
theorem dX9_eldest_22 : decode cX9_eldest 22 = .ok (.invokevirtual 195, 3) := by decide +kernel
theorem dX9_eldest_25 : decode cX9_eldest 25 = .ok (.istore_n 2, 1) := by decide +kernel
theorem dX9_eldest_26 : decode cX9_eldest 26 = .ok (.iload_n 2, 1) := by decide +kernel
theorem dX9_eldest_27 : decode cX9_eldest 27 = .ok (.iconst (-1), 1) := by decide +kernel
theorem dX9_eldest_28 : decode cX9_eldest 28 = .ok (.if_icmp .ne 11, 3) := by decide +kernel
theorem dX9_eldest_31 : decode cX9_eldest 31 = .ok (.aload_n 0, 1) := by decide +kernel
theorem dX9_eldest_32 : decode cX9_eldest 32 = .ok (.iconst 5, 1) := by decide +kernel
theorem dX9_eldest_33 : decode cX9_eldest 33 = .ok (.invokevirtual 58, 3) := by decide +kernel
theorem dX9_eldest_36 : decode cX9_eldest 36 = .ok (.goto 8, 3) := by decide +kernel
theorem dX9_eldest_39 : decode cX9_eldest 39 = .ok (.aload_n 0, 1) := by decide +kernel
theorem dX9_eldest_40 : decode cX9_eldest 40 = .ok (.iload_n 2, 1) := by decide +kernel
theorem dX9_eldest_41 : decode cX9_eldest 41 = .ok (.invokevirtual 75, 3) := by decide +kernel
theorem dX9_eldest_44 : decode cX9_eldest 44 = .ok (.ireturn, 1) := by decide +kernel
theorem dX9_past_0 : decode cX9_past 0 = .ok (.iload_n 2, 1) := by decide +kernel
theorem dX9_past_1 : decode cX9_past 1 = .ok (.ifCond .lt 9, 3) := by decide +kernel
theorem dX9_past_4 : decode cX9_past 4 = .ok (.iload_n 2, 1) := by decide +kernel
theorem dX9_past_5 : decode cX9_past 5 = .ok (.bipush 20, 2) := by decide +kernel
theorem dX9_past_7 : decode cX9_past 7 = .ok (.if_icmp .lt 9, 3) := by decide +kernel
theorem dX9_past_10 : decode cX9_past 10 = .ok (.aload_n 0, 1) := by decide +kernel
theorem dX9_past_11 : decode cX9_past 11 = .ok (.iconst 1, 1) := by decide +kernel
theorem dX9_past_12 : decode cX9_past 12 = .ok (.invokevirtual 58, 3) := by decide +kernel
theorem dX9_past_15 : decode cX9_past 15 = .ok (.ireturn, 1) := by decide +kernel
theorem dX9_past_16 : decode cX9_past 16 = .ok (.aload_n 0, 1) := by decide +kernel
theorem dX9_past_17 : decode cX9_past 17 = .ok (.getfield 23, 3) := by decide +kernel
theorem dX9_past_20 : decode cX9_past 20 = .ok (.iload_n 1, 1) := by decide +kernel
theorem dX9_past_21 : decode cX9_past 21 = .ok (.invokevirtual 127, 3) := by decide +kernel
theorem dX9_past_24 : decode cX9_past 24 = .ok (.ifnonnull 9, 3) := by decide +kernel
theorem dX9_past_27 : decode cX9_past 27 = .ok (.aload_n 0, 1) := by decide +kernel
theorem dX9_past_28 : decode cX9_past 28 = .ok (.iconst 2, 1) := by decide +kernel
theorem dX9_past_29 : decode cX9_past 29 = .ok (.invokevirtual 58, 3) := by decide +kernel
theorem dX9_past_32 : decode cX9_past 32 = .ok (.ireturn, 1) := by decide +kernel
theorem dX9_past_33 : decode cX9_past 33 = .ok (.iload_n 2, 1) := by decide +kernel
theorem dX9_past_34 : decode cX9_past 34 = .ok (.aload_n 0, 1) := by decide +kernel
theorem dX9_past_35 : decode cX9_past 35 = .ok (.getfield 23, 3) := by decide +kernel
theorem dX9_past_38 : decode cX9_past 38 = .ok (.getfield 81, 3) := by decide +kernel
theorem dX9_past_41 : decode cX9_past 41 = .ok (.if_icmp .lt 9, 3) := by decide +kernel
theorem dX9_past_44 : decode cX9_past 44 = .ok (.aload_n 0, 1) := by decide +kernel
theorem dX9_past_45 : decode cX9_past 45 = .ok (.iconst 5, 1) := by decide +kernel
theorem dX9_past_46 : decode cX9_past 46 = .ok (.invokevirtual 58, 3) := by decide +kernel
theorem dX9_past_49 : decode cX9_past 49 = .ok (.ireturn, 1) := by decide +kernel
theorem dX9_past_50 : decode cX9_past 50 = .ok (.aload_n 0, 1) := by decide +kernel
theorem dX9_past_51 : decode cX9_past 51 = .ok (.aload_n 0, 1) := by decide +kernel
theorem dX9_past_52 : decode cX9_past 52 = .ok (.getfield 23, 3) := by decide +kernel
theorem dX9_past_55 : decode cX9_past 55 = .ok (.iload_n 1, 1) := by decide +kernel
theorem dX9_past_56 : decode cX9_past 56 = .ok (.iload_n 2, 1) := by decide +kernel
theorem dX9_past_57 : decode cX9_past 57 = .ok (.invokevirtual 198, 3) := by decide +kernel
theorem dX9_past_60 : decode cX9_past 60 = .ok (.invokevirtual 75, 3) := by decide +kernel
theorem dX9_past_63 : decode cX9_past 63 = .ok (.ireturn, 1) := by decide +kernel
theorem dX9_top_0 : decode cX9_top 0 = .ok (.iload_n 1, 1) := by decide +kernel
theorem dX9_top_1 : decode cX9_top 1 = .ok (.ifCond .lt 8, 3) := by decide +kernel
theorem dX9_top_4 : decode cX9_top 4 = .ok (.iload_n 1, 1) := by decide +kernel
theorem dX9_top_5 : decode cX9_top 5 = .ok (.iconst 2, 1) := by decide +kernel
theorem dX9_top_6 : decode cX9_top 6 = .ok (.if_icmp .le 9, 3) := by decide +kernel
theorem dX9_top_9 : decode cX9_top 9 = .ok (.aload_n 0, 1) := by decide +kernel
theorem dX9_top_10 : decode cX9_top 10 = .ok (.iconst 1, 1) := by decide +kernel
theorem dX9_top_11 : decode cX9_top 11 = .ok (.invokevirtual 58, 3) := by decide +kernel
theorem dX9_top_14 : decode cX9_top 14 = .ok (.ireturn, 1) := by decide +kernel
theorem dX9_top_15 : decode cX9_top 15 = .ok (.aload_n 0, 1) := by decide +kernel
theorem dX9_top_16 : decode cX9_top 16 = .ok (.getfield 23, 3) := by decide +kernel
theorem dX9_top_19 : decode cX9_top 19 = .ok (.getfield 72, 3) := by decide +kernel
theorem dX9_top_22 : decode cX9_top 22 = .ok (.ifCond .ne 9, 3) := by decide +kernel
theorem dX9_top_25 : decode cX9_top 25 = .ok (.aload_n 0, 1) := by decide +kernel
theorem dX9_top_26 : decode cX9_top 26 = .ok (.iconst 5, 1) := by decide +kernel
theorem dX9_top_27 : decode cX9_top 27 = .ok (.invokevirtual 58, 3) := by decide +kernel
theorem dX9_top_30 : decode cX9_top 30 = .ok (.ireturn, 1) := by decide +kernel
theorem dX9_top_31 : decode cX9_top 31 = .ok (.aload_n 0, 1) := by decide +kernel
theorem dX9_top_32 : decode cX9_top 32 = .ok (.aload_n 0, 1) := by decide +kernel
theorem dX9_top_33 : decode cX9_top 33 = .ok (.getfield 23, 3) := by decide +kernel
theorem dX9_top_36 : decode cX9_top 36 = .ok (.iload_n 1, 1) := by decide +kernel
theorem dX9_top_37 : decode cX9_top 37 = .ok (.invokevirtual 201, 3) := by decide +kernel
theorem dX9_top_40 : decode cX9_top 40 = .ok (.invokevirtual 75, 3) := by decide +kernel
theorem dX9_top_43 : decode cX9_top 43 = .ok (.ireturn, 1) := by decide +kernel
theorem dX9_alike_0 : decode cX9_alike 0 = .ok (.aload_n 0, 1) := by decide +kernel
theorem dX9_alike_1 : decode cX9_alike 1 = .ok (.getfield 23, 3) := by decide +kernel
theorem dX9_alike_4 : decode cX9_alike 4 = .ok (.iload_n 1, 1) := by decide +kernel
theorem dX9_alike_5 : decode cX9_alike 5 = .ok (.invokevirtual 127, 3) := by decide +kernel
theorem dX9_alike_8 : decode cX9_alike 8 = .ok (.astore_n 3, 1) := by decide +kernel
theorem dX9_alike_9 : decode cX9_alike 9 = .ok (.aload_n 0, 1) := by decide +kernel
theorem dX9_alike_10 : decode cX9_alike 10 = .ok (.getfield 23, 3) := by decide +kernel
theorem dX9_alike_13 : decode cX9_alike 13 = .ok (.iload_n 2, 1) := by decide +kernel
theorem dX9_alike_14 : decode cX9_alike 14 = .ok (.invokevirtual 127, 3) := by decide +kernel
theorem dX9_alike_17 : decode cX9_alike 17 = .ok (.astore 4, 2) := by decide +kernel
theorem dX9_alike_19 : decode cX9_alike 19 = .ok (.aload_n 3, 1) := by decide +kernel
theorem dX9_alike_20 : decode cX9_alike 20 = .ok (.ifnull 8, 3) := by decide +kernel
theorem dX9_alike_23 : decode cX9_alike 23 = .ok (.aload 4, 2) := by decide +kernel
theorem dX9_alike_25 : decode cX9_alike 25 = .ok (.ifnonnull 9, 3) := by decide +kernel
theorem dX9_alike_28 : decode cX9_alike 28 = .ok (.aload_n 0, 1) := by decide +kernel
theorem dX9_alike_29 : decode cX9_alike 29 = .ok (.iconst 2, 1) := by decide +kernel
theorem dX9_alike_30 : decode cX9_alike 30 = .ok (.invokevirtual 58, 3) := by decide +kernel
theorem dX9_alike_33 : decode cX9_alike 33 = .ok (.ireturn, 1) := by decide +kernel
theorem dX9_alike_34 : decode cX9_alike 34 = .ok (.aload_n 3, 1) := by decide +kernel
theorem dX9_alike_35 : decode cX9_alike 35 = .ok (.aload 4, 2) := by decide +kernel
theorem dX9_alike_37 : decode cX9_alike 37 = .ok (.invokevirtual 204, 3) := by decide +kernel
theorem dX9_alike_40 : decode cX9_alike 40 = .ok (.ifCond .eq 9, 3) := by decide +kernel
theorem dX9_alike_43 : decode cX9_alike 43 = .ok (.aload_n 0, 1) := by decide +kernel
theorem dX9_alike_44 : decode cX9_alike 44 = .ok (.iconst 2, 1) := by decide +kernel
theorem dX9_alike_45 : decode cX9_alike 45 = .ok (.invokevirtual 75, 3) := by decide +kernel
theorem dX9_alike_48 : decode cX9_alike 48 = .ok (.ireturn, 1) := by decide +kernel
theorem dX9_alike_49 : decode cX9_alike 49 = .ok (.aload_n 0, 1) := by decide +kernel
theorem dX9_alike_50 : decode cX9_alike 50 = .ok (.aload_n 3, 1) := by decide +kernel
theorem dX9_alike_51 : decode cX9_alike 51 = .ok (.aload 4, 2) := by decide +kernel
theorem dX9_alike_53 : decode cX9_alike 53 = .ok (.invokevirtual 208, 3) := by decide +kernel
theorem dX9_alike_56 : decode cX9_alike 56 = .ok (.ifCond .eq 7, 3) := by decide +kernel
theorem dX9_alike_59 : decode cX9_alike 59 = .ok (.iconst 1, 1) := by decide +kernel
theorem dX9_alike_60 : decode cX9_alike 60 = .ok (.goto 4, 3) := by decide +kernel
theorem dX9_alike_63 : decode cX9_alike 63 = .ok (.iconst 0, 1) := by decide +kernel
theorem dX9_alike_64 : decode cX9_alike 64 = .ok (.invokevirtual 75, 3) := by decide +kernel
theorem dX9_alike_67 : decode cX9_alike 67 = .ok (.ireturn, 1) := by decide +kernel
theorem dX9_set_0 : decode cX9_set 0 = .ok (.iload_n 2, 1) := by decide +kernel
theorem dX9_set_1 : decode cX9_set 1 = .ok (.iload_n 3, 1) := by decide +kernel
theorem dX9_set_2 : decode cX9_set 2 = .ok (.invokestatic 211, 3) := by decide +kernel
theorem dX9_set_5 : decode cX9_set 5 = .ok (.ifCond .ne 9, 3) := by decide +kernel
theorem dX9_set_8 : decode cX9_set 8 = .ok (.aload_n 0, 1) := by decide +kernel
theorem dX9_set_9 : decode cX9_set 9 = .ok (.iconst 1, 1) := by decide +kernel
theorem dX9_set_10 : decode cX9_set 10 = .ok (.invokevirtual 58, 3) := by decide +kernel
theorem dX9_set_13 : decode cX9_set 13 = .ok (.ireturn, 1) := by decide +kernel
theorem dX9_set_14 : decode cX9_set 14 = .ok (.aload_n 0, 1) := by decide +kernel
theorem dX9_set_15 : decode cX9_set 15 = .ok (.getfield 23, 3) := by decide +kernel
theorem dX9_set_18 : decode cX9_set 18 = .ok (.iload_n 1, 1) := by decide +kernel
theorem dX9_set_19 : decode cX9_set 19 = .ok (.invokevirtual 118, 3) := by decide +kernel
theorem dX9_set_22 : decode cX9_set 22 = .ok (.astore 4, 2) := by decide +kernel
theorem dX9_set_24 : decode cX9_set 24 = .ok (.aload 4, 2) := by decide +kernel
theorem dX9_set_26 : decode cX9_set 26 = .ok (.ifnonnull 9, 3) := by decide +kernel
theorem dX9_set_29 : decode cX9_set 29 = .ok (.aload_n 0, 1) := by decide +kernel
theorem dX9_set_30 : decode cX9_set 30 = .ok (.iconst 2, 1) := by decide +kernel
theorem dX9_set_31 : decode cX9_set 31 = .ok (.invokevirtual 58, 3) := by decide +kernel
theorem dX9_set_34 : decode cX9_set 34 = .ok (.ireturn, 1) := by decide +kernel
theorem dX9_set_35 : decode cX9_set 35 = .ok (.aload 4, 2) := by decide +kernel
theorem dX9_set_37 : decode cX9_set 37 = .ok (.iload_n 2, 1) := by decide +kernel
theorem dX9_set_38 : decode cX9_set 38 = .ok (.invokevirtual 215, 3) := by decide +kernel
theorem dX9_set_41 : decode cX9_set 41 = .ok (.istore 5, 2) := by decide +kernel
theorem dX9_set_43 : decode cX9_set 43 = .ok (.iload 5, 2) := by decide +kernel
theorem dX9_set_45 : decode cX9_set 45 = .ok (.iload_n 3, 1) := by decide +kernel
theorem dX9_set_46 : decode cX9_set 46 = .ok (.if_icmp .ne 9, 3) := by decide +kernel
theorem dX9_set_49 : decode cX9_set 49 = .ok (.aload_n 0, 1) := by decide +kernel
theorem dX9_set_50 : decode cX9_set 50 = .ok (.iconst 4, 1) := by decide +kernel
theorem dX9_set_51 : decode cX9_set 51 = .ok (.invokevirtual 58, 3) := by decide +kernel
theorem dX9_set_54 : decode cX9_set 54 = .ok (.ireturn, 1) := by decide +kernel
theorem dX9_set_55 : decode cX9_set 55 = .ok (.aload 4, 2) := by decide +kernel
theorem dX9_set_57 : decode cX9_set 57 = .ok (.iload_n 2, 1) := by decide +kernel
theorem dX9_set_58 : decode cX9_set 58 = .ok (.iload_n 3, 1) := by decide +kernel
theorem dX9_set_59 : decode cX9_set 59 = .ok (.invokevirtual 218, 3) := by decide +kernel
theorem dX9_set_62 : decode cX9_set 62 = .ok (.aload_n 0, 1) := by decide +kernel
theorem dX9_set_63 : decode cX9_set 63 = .ok (.iload 5, 2) := by decide +kernel
theorem dX9_set_65 : decode cX9_set 65 = .ok (.invokevirtual 75, 3) := by decide +kernel
theorem dX9_set_68 : decode cX9_set 68 = .ok (.ireturn, 1) := by decide +kernel
theorem dX9_turn_0 : decode cX9_turn 0 = .ok (.aload_n 0, 1) := by decide +kernel
theorem dX9_turn_1 : decode cX9_turn 1 = .ok (.getfield 23, 3) := by decide +kernel
theorem dX9_turn_4 : decode cX9_turn 4 = .ok (.iload_n 1, 1) := by decide +kernel
theorem dX9_turn_5 : decode cX9_turn 5 = .ok (.invokevirtual 127, 3) := by decide +kernel
theorem dX9_turn_8 : decode cX9_turn 8 = .ok (.astore_n 3, 1) := by decide +kernel
theorem dX9_turn_9 : decode cX9_turn 9 = .ok (.aload_n 3, 1) := by decide +kernel
theorem dX9_turn_10 : decode cX9_turn 10 = .ok (.ifnonnull 10, 3) := by decide +kernel
theorem dX9_turn_13 : decode cX9_turn 13 = .ok (.aload_n 0, 1) := by decide +kernel
theorem dX9_turn_14 : decode cX9_turn 14 = .ok (.iconst 2, 1) := by decide +kernel
theorem dX9_turn_15 : decode cX9_turn 15 = .ok (.putfield 48, 3) := by decide +kernel
theorem dX9_turn_18 : decode cX9_turn 18 = .ok (.iconst 0, 1) := by decide +kernel
theorem dX9_turn_19 : decode cX9_turn 19 = .ok (.ireturn, 1) := by decide +kernel
theorem dX9_turn_20 : decode cX9_turn 20 = .ok (.aload_n 3, 1) := by decide +kernel
theorem dX9_turn_21 : decode cX9_turn 21 = .ok (.getfield 222, 3) := by decide +kernel
theorem dX9_turn_24 : decode cX9_turn 24 = .ok (.iload_n 2, 1) := by decide +kernel
theorem dX9_turn_25 : decode cX9_turn 25 = .ok (.if_icmp .ne 10, 3) := by decide +kernel
theorem dX9_turn_28 : decode cX9_turn 28 = .ok (.aload_n 0, 1) := by decide +kernel
theorem dX9_turn_29 : decode cX9_turn 29 = .ok (.iconst 4, 1) := by decide +kernel
theorem dX9_turn_30 : decode cX9_turn 30 = .ok (.putfield 48, 3) := by decide +kernel
theorem dX9_turn_33 : decode cX9_turn 33 = .ok (.iconst 0, 1) := by decide +kernel
theorem dX9_turn_34 : decode cX9_turn 34 = .ok (.ireturn, 1) := by decide +kernel
theorem dX9_turn_35 : decode cX9_turn 35 = .ok (.aload_n 3, 1) := by decide +kernel
theorem dX9_turn_36 : decode cX9_turn 36 = .ok (.iload_n 2, 1) := by decide +kernel
theorem dX9_turn_37 : decode cX9_turn 37 = .ok (.putfield 222, 3) := by decide +kernel
theorem dX9_turn_40 : decode cX9_turn 40 = .ok (.aload_n 0, 1) := by decide +kernel
theorem dX9_turn_41 : decode cX9_turn 41 = .ok (.iconst 0, 1) := by decide +kernel
theorem dX9_turn_42 : decode cX9_turn 42 = .ok (.putfield 48, 3) := by decide +kernel
theorem dX9_turn_45 : decode cX9_turn 45 = .ok (.iconst 1, 1) := by decide +kernel
theorem dX9_turn_46 : decode cX9_turn 46 = .ok (.ireturn, 1) := by decide +kernel
theorem dX9_more_0 : decode cX9_more 0 = .ok (.iload_n 2, 1) := by decide +kernel
theorem dX9_more_1 : decode cX9_more 1 = .ok (.iconst 1, 1) := by decide +kernel
theorem dX9_more_2 : decode cX9_more 2 = .ok (.if_icmp .lt 10, 3) := by decide +kernel
theorem dX9_more_5 : decode cX9_more 5 = .ok (.iload_n 2, 1) := by decide +kernel
theorem dX9_more_6 : decode cX9_more 6 = .ok (.sipush 9999, 3) := by decide +kernel
theorem dX9_more_9 : decode cX9_more 9 = .ok (.if_icmp .le 9, 3) := by decide +kernel
theorem dX9_more_12 : decode cX9_more 12 = .ok (.aload_n 0, 1) := by decide +kernel
theorem dX9_more_13 : decode cX9_more 13 = .ok (.iconst 1, 1) := by decide +kernel
theorem dX9_more_14 : decode cX9_more 14 = .ok (.invokevirtual 58, 3) := by decide +kernel
theorem dX9_more_17 : decode cX9_more 17 = .ok (.ireturn, 1) := by decide +kernel
theorem dX9_more_18 : decode cX9_more 18 = .ok (.aload_n 0, 1) := by decide +kernel
theorem dX9_more_19 : decode cX9_more 19 = .ok (.getfield 23, 3) := by decide +kernel
theorem dX9_more_22 : decode cX9_more 22 = .ok (.iload_n 1, 1) := by decide +kernel
theorem dX9_more_23 : decode cX9_more 23 = .ok (.invokevirtual 127, 3) := by decide +kernel
theorem dX9_more_26 : decode cX9_more 26 = .ok (.astore_n 3, 1) := by decide +kernel
theorem dX9_more_27 : decode cX9_more 27 = .ok (.aload_n 3, 1) := by decide +kernel
theorem dX9_more_28 : decode cX9_more 28 = .ok (.ifnonnull 9, 3) := by decide +kernel
theorem dX9_more_31 : decode cX9_more 31 = .ok (.aload_n 0, 1) := by decide +kernel
theorem dX9_more_32 : decode cX9_more 32 = .ok (.iconst 2, 1) := by decide +kernel
theorem dX9_more_33 : decode cX9_more 33 = .ok (.invokevirtual 58, 3) := by decide +kernel
theorem dX9_more_36 : decode cX9_more 36 = .ok (.ireturn, 1) := by decide +kernel
theorem dX9_more_37 : decode cX9_more 37 = .ok (.aload_n 3, 1) := by decide +kernel
theorem dX9_more_38 : decode cX9_more 38 = .ok (.getfield 226, 3) := by decide +kernel
theorem dX9_more_41 : decode cX9_more 41 = .ok (.iload_n 2, 1) := by decide +kernel
theorem dX9_more_42 : decode cX9_more 42 = .ok (.iadd, 1) := by decide +kernel
theorem dX9_more_43 : decode cX9_more 43 = .ok (.sipush 9999, 3) := by decide +kernel
theorem dX9_more_46 : decode cX9_more 46 = .ok (.if_icmp .le 9, 3) := by decide +kernel
theorem dX9_more_49 : decode cX9_more 49 = .ok (.aload_n 0, 1) := by decide +kernel
theorem dX9_more_50 : decode cX9_more 50 = .ok (.iconst 3, 1) := by decide +kernel
theorem dX9_more_51 : decode cX9_more 51 = .ok (.invokevirtual 58, 3) := by decide +kernel
theorem dX9_more_54 : decode cX9_more 54 = .ok (.ireturn, 1) := by decide +kernel
theorem dX9_more_55 : decode cX9_more 55 = .ok (.aload_n 3, 1) := by decide +kernel
theorem dX9_more_56 : decode cX9_more 56 = .ok (.dup, 1) := by decide +kernel
theorem dX9_more_57 : decode cX9_more 57 = .ok (.getfield 226, 3) := by decide +kernel
theorem dX9_more_60 : decode cX9_more 60 = .ok (.iload_n 2, 1) := by decide +kernel
theorem dX9_more_61 : decode cX9_more 61 = .ok (.iadd, 1) := by decide +kernel
theorem dX9_more_62 : decode cX9_more 62 = .ok (.putfield 226, 3) := by decide +kernel
theorem dX9_more_65 : decode cX9_more 65 = .ok (.aload_n 0, 1) := by decide +kernel
theorem dX9_more_66 : decode cX9_more 66 = .ok (.aload_n 3, 1) := by decide +kernel
theorem dX9_more_67 : decode cX9_more 67 = .ok (.getfield 226, 3) := by decide +kernel
theorem dX9_more_70 : decode cX9_more 70 = .ok (.invokevirtual 75, 3) := by decide +kernel
theorem dX9_more_73 : decode cX9_more 73 = .ok (.ireturn, 1) := by decide +kernel
theorem dX9_kind_0 : decode cX9_kind 0 = .ok (.iload_n 2, 1) := by decide +kernel
theorem dX9_kind_1 : decode cX9_kind 1 = .ok (.ifCond .lt 8, 3) := by decide +kernel
theorem dX9_kind_4 : decode cX9_kind 4 = .ok (.iload_n 2, 1) := by decide +kernel
theorem dX9_kind_5 : decode cX9_kind 5 = .ok (.iconst 3, 1) := by decide +kernel
theorem dX9_kind_6 : decode cX9_kind 6 = .ok (.if_icmp .le 9, 3) := by decide +kernel
theorem dX9_kind_9 : decode cX9_kind 9 = .ok (.aload_n 0, 1) := by decide +kernel
theorem dX9_kind_10 : decode cX9_kind 10 = .ok (.iconst 1, 1) := by decide +kernel
theorem dX9_kind_11 : decode cX9_kind 11 = .ok (.invokevirtual 58, 3) := by decide +kernel
theorem dX9_kind_14 : decode cX9_kind 14 = .ok (.ireturn, 1) := by decide +kernel
theorem dX9_kind_15 : decode cX9_kind 15 = .ok (.aload_n 0, 1) := by decide +kernel
theorem dX9_kind_16 : decode cX9_kind 16 = .ok (.getfield 23, 3) := by decide +kernel
theorem dX9_kind_19 : decode cX9_kind 19 = .ok (.iload_n 1, 1) := by decide +kernel
theorem dX9_kind_20 : decode cX9_kind 20 = .ok (.invokevirtual 127, 3) := by decide +kernel
theorem dX9_kind_23 : decode cX9_kind 23 = .ok (.astore_n 3, 1) := by decide +kernel
theorem dX9_kind_24 : decode cX9_kind 24 = .ok (.aload_n 3, 1) := by decide +kernel
theorem dX9_kind_25 : decode cX9_kind 25 = .ok (.ifnonnull 9, 3) := by decide +kernel
theorem dX9_kind_28 : decode cX9_kind 28 = .ok (.aload_n 0, 1) := by decide +kernel
theorem dX9_kind_29 : decode cX9_kind 29 = .ok (.iconst 2, 1) := by decide +kernel
theorem dX9_kind_30 : decode cX9_kind 30 = .ok (.invokevirtual 58, 3) := by decide +kernel
theorem dX9_kind_33 : decode cX9_kind 33 = .ok (.ireturn, 1) := by decide +kernel
theorem dX9_kind_34 : decode cX9_kind 34 = .ok (.aload_n 3, 1) := by decide +kernel
theorem dX9_kind_35 : decode cX9_kind 35 = .ok (.getfield 229, 3) := by decide +kernel
theorem dX9_kind_38 : decode cX9_kind 38 = .ok (.istore 4, 2) := by decide +kernel
theorem dX9_kind_40 : decode cX9_kind 40 = .ok (.iload 4, 2) := by decide +kernel
theorem dX9_kind_42 : decode cX9_kind 42 = .ok (.iload_n 2, 1) := by decide +kernel
theorem dX9_kind_43 : decode cX9_kind 43 = .ok (.if_icmp .ne 9, 3) := by decide +kernel
theorem dX9_kind_46 : decode cX9_kind 46 = .ok (.aload_n 0, 1) := by decide +kernel
theorem dX9_kind_47 : decode cX9_kind 47 = .ok (.iconst 4, 1) := by decide +kernel
theorem dX9_kind_48 : decode cX9_kind 48 = .ok (.invokevirtual 58, 3) := by decide +kernel
theorem dX9_kind_51 : decode cX9_kind 51 = .ok (.ireturn, 1) := by decide +kernel
theorem dX9_kind_52 : decode cX9_kind 52 = .ok (.aload_n 3, 1) := by decide +kernel
theorem dX9_kind_53 : decode cX9_kind 53 = .ok (.iload_n 2, 1) := by decide +kernel
theorem dX9_kind_54 : decode cX9_kind 54 = .ok (.putfield 229, 3) := by decide +kernel
theorem dX9_kind_57 : decode cX9_kind 57 = .ok (.aload_n 0, 1) := by decide +kernel
theorem dX9_kind_58 : decode cX9_kind 58 = .ok (.iload 4, 2) := by decide +kernel
theorem dX9_kind_60 : decode cX9_kind 60 = .ok (.invokevirtual 75, 3) := by decide +kernel
theorem dX9_kind_63 : decode cX9_kind 63 = .ok (.ireturn, 1) := by decide +kernel
theorem dX9_detour_0 : decode cX9_detour 0 = .ok (.iload_n 2, 1) := by decide +kernel
theorem dX9_detour_1 : decode cX9_detour 1 = .ok (.ifCond .ge 9, 3) := by decide +kernel
theorem dX9_detour_4 : decode cX9_detour 4 = .ok (.aload_n 0, 1) := by decide +kernel
theorem dX9_detour_5 : decode cX9_detour 5 = .ok (.iconst 1, 1) := by decide +kernel
theorem dX9_detour_6 : decode cX9_detour 6 = .ok (.invokevirtual 58, 3) := by decide +kernel
theorem dX9_detour_9 : decode cX9_detour 9 = .ok (.ireturn, 1) := by decide +kernel
theorem dX9_detour_10 : decode cX9_detour 10 = .ok (.aload_n 0, 1) := by decide +kernel
theorem dX9_detour_11 : decode cX9_detour 11 = .ok (.getfield 23, 3) := by decide +kernel
theorem dX9_detour_14 : decode cX9_detour 14 = .ok (.iload_n 1, 1) := by decide +kernel
theorem dX9_detour_15 : decode cX9_detour 15 = .ok (.invokevirtual 127, 3) := by decide +kernel
theorem dX9_detour_18 : decode cX9_detour 18 = .ok (.astore 4, 2) := by decide +kernel
theorem dX9_detour_20 : decode cX9_detour 20 = .ok (.aload 4, 2) := by decide +kernel
theorem dX9_detour_22 : decode cX9_detour 22 = .ok (.ifnull 14, 3) := by decide +kernel
theorem dX9_detour_25 : decode cX9_detour 25 = .ok (.aload_n 0, 1) := by decide +kernel
theorem dX9_detour_26 : decode cX9_detour 26 = .ok (.getfield 23, 3) := by decide +kernel
theorem dX9_detour_29 : decode cX9_detour 29 = .ok (.iload_n 3, 1) := by decide +kernel
theorem dX9_detour_30 : decode cX9_detour 30 = .ok (.invokevirtual 118, 3) := by decide +kernel
theorem dX9_detour_33 : decode cX9_detour 33 = .ok (.ifnonnull 9, 3) := by decide +kernel
theorem dX9_detour_36 : decode cX9_detour 36 = .ok (.aload_n 0, 1) := by decide +kernel
theorem dX9_detour_37 : decode cX9_detour 37 = .ok (.iconst 2, 1) := by decide +kernel
theorem dX9_detour_38 : decode cX9_detour 38 = .ok (.invokevirtual 58, 3) := by decide +kernel
theorem dX9_detour_41 : decode cX9_detour 41 = .ok (.ireturn, 1) := by decide +kernel
theorem dX9_detour_42 : decode cX9_detour 42 = .ok (.aload 4, 2) := by decide +kernel
theorem dX9_detour_44 : decode cX9_detour 44 = .ok (.iload_n 3, 1) := by decide +kernel
theorem dX9_detour_45 : decode cX9_detour 45 = .ok (.invokevirtual 232, 3) := by decide +kernel
theorem dX9_detour_48 : decode cX9_detour 48 = .ok (.ifCond .eq 9, 3) := by decide +kernel
theorem dX9_detour_51 : decode cX9_detour 51 = .ok (.aload_n 0, 1) := by decide +kernel
theorem dX9_detour_52 : decode cX9_detour 52 = .ok (.iconst 4, 1) := by decide +kernel
theorem dX9_detour_53 : decode cX9_detour 53 = .ok (.invokevirtual 58, 3) := by decide +kernel
theorem dX9_detour_56 : decode cX9_detour 56 = .ok (.ireturn, 1) := by decide +kernel
theorem dX9_detour_57 : decode cX9_detour 57 = .ok (.iload_n 2, 1) := by decide +kernel
theorem dX9_detour_58 : decode cX9_detour 58 = .ok (.aload 4, 2) := by decide +kernel
theorem dX9_detour_60 : decode cX9_detour 60 = .ok (.getfield 137, 3) := by decide +kernel
theorem dX9_detour_63 : decode cX9_detour 63 = .ok (.if_icmp .lt 9, 3) := by decide +kernel
theorem dX9_detour_66 : decode cX9_detour 66 = .ok (.aload_n 0, 1) := by decide +kernel
theorem dX9_detour_67 : decode cX9_detour 67 = .ok (.iconst 5, 1) := by decide +kernel
theorem dX9_detour_68 : decode cX9_detour 68 = .ok (.invokevirtual 58, 3) := by decide +kernel
theorem dX9_detour_71 : decode cX9_detour 71 = .ok (.ireturn, 1) := by decide +kernel
theorem dX9_detour_72 : decode cX9_detour 72 = .ok (.aload 4, 2) := by decide +kernel
theorem dX9_detour_74 : decode cX9_detour 74 = .ok (.iload_n 2, 1) := by decide +kernel
theorem dX9_detour_75 : decode cX9_detour 75 = .ok (.invokevirtual 140, 3) := by decide +kernel
theorem dX9_detour_78 : decode cX9_detour 78 = .ok (.istore 5, 2) := by decide +kernel
theorem dX9_detour_80 : decode cX9_detour 80 = .ok (.aload 4, 2) := by decide +kernel
theorem dX9_detour_82 : decode cX9_detour 82 = .ok (.iload_n 2, 1) := by decide +kernel
theorem dX9_detour_83 : decode cX9_detour 83 = .ok (.iload_n 3, 1) := by decide +kernel
theorem dX9_detour_84 : decode cX9_detour 84 = .ok (.invokevirtual 236, 3) := by decide +kernel
theorem dX9_detour_87 : decode cX9_detour 87 = .ok (.aload_n 0, 1) := by decide +kernel
theorem dX9_detour_88 : decode cX9_detour 88 = .ok (.getfield 23, 3) := by decide +kernel
theorem dX9_detour_91 : decode cX9_detour 91 = .ok (.aload 4, 2) := by decide +kernel
theorem dX9_detour_93 : decode cX9_detour 93 = .ok (.invokevirtual 239, 3) := by decide +kernel
theorem dX9_detour_96 : decode cX9_detour 96 = .ok (.aload_n 0, 1) := by decide +kernel
theorem dX9_detour_97 : decode cX9_detour 97 = .ok (.iload 5, 2) := by decide +kernel
theorem dX9_detour_99 : decode cX9_detour 99 = .ok (.invokevirtual 75, 3) := by decide +kernel
theorem dX9_detour_102 : decode cX9_detour 102 = .ok (.ireturn, 1) := by decide +kernel
theorem dX9_tick_0 : decode cX9_tick 0 = .ok (.iload_n 1, 1) := by decide +kernel
theorem dX9_tick_1 : decode cX9_tick 1 = .ok (.iconst 1, 1) := by decide +kernel
theorem dX9_tick_2 : decode cX9_tick 2 = .ok (.if_icmp .lt 9, 3) := by decide +kernel
theorem dX9_tick_5 : decode cX9_tick 5 = .ok (.iload_n 1, 1) := by decide +kernel
theorem dX9_tick_6 : decode cX9_tick 6 = .ok (.bipush 60, 2) := by decide +kernel
theorem dX9_tick_8 : decode cX9_tick 8 = .ok (.if_icmp .le 9, 3) := by decide +kernel
theorem dX9_tick_11 : decode cX9_tick 11 = .ok (.aload_n 0, 1) := by decide +kernel
theorem dX9_tick_12 : decode cX9_tick 12 = .ok (.iconst 1, 1) := by decide +kernel
theorem dX9_tick_13 : decode cX9_tick 13 = .ok (.invokevirtual 58, 3) := by decide +kernel
theorem dX9_tick_16 : decode cX9_tick 16 = .ok (.ireturn, 1) := by decide +kernel
theorem dX9_tick_17 : decode cX9_tick 17 = .ok (.aload_n 0, 1) := by decide +kernel
theorem dX9_tick_18 : decode cX9_tick 18 = .ok (.getfield 23, 3) := by decide +kernel
theorem dX9_tick_21 : decode cX9_tick 21 = .ok (.iload_n 1, 1) := by decide +kernel
theorem dX9_tick_22 : decode cX9_tick 22 = .ok (.invokevirtual 243, 3) := by decide +kernel
theorem dX9_tick_25 : decode cX9_tick 25 = .ok (.aload_n 0, 1) := by decide +kernel
theorem dX9_tick_26 : decode cX9_tick 26 = .ok (.aload_n 0, 1) := by decide +kernel
theorem dX9_tick_27 : decode cX9_tick 27 = .ok (.getfield 23, 3) := by decide +kernel
theorem dX9_tick_30 : decode cX9_tick 30 = .ok (.getfield 81, 3) := by decide +kernel
theorem dX9_tick_33 : decode cX9_tick 33 = .ok (.invokevirtual 75, 3) := by decide +kernel
theorem dX9_tick_36 : decode cX9_tick 36 = .ok (.ireturn, 1) := by decide +kernel
theorem dX9_mark_0 : decode cX9_mark 0 = .ok (.aload_n 0, 1) := by decide +kernel
theorem dX9_mark_1 : decode cX9_mark 1 = .ok (.getfield 84, 3) := by decide +kernel
theorem dX9_mark_4 : decode cX9_mark 4 = .ok (.iconst 3, 1) := by decide +kernel
theorem dX9_mark_5 : decode cX9_mark 5 = .ok (.if_icmp .lt 9, 3) := by decide +kernel
theorem dX9_mark_8 : decode cX9_mark 8 = .ok (.aload_n 0, 1) := by decide +kernel
theorem dX9_mark_9 : decode cX9_mark 9 = .ok (.iconst 3, 1) := by decide +kernel
theorem dX9_mark_10 : decode cX9_mark 10 = .ok (.invokevirtual 58, 3) := by decide +kernel
theorem dX9_mark_13 : decode cX9_mark 13 = .ok (.ireturn, 1) := by decide +kernel
theorem dX9_mark_14 : decode cX9_mark 14 = .ok (.aload_n 0, 1) := by decide +kernel
theorem dX9_mark_15 : decode cX9_mark 15 = .ok (.getfield 30, 3) := by decide +kernel
theorem dX9_mark_18 : decode cX9_mark 18 = .ok (.aload_n 0, 1) := by decide +kernel
theorem dX9_mark_19 : decode cX9_mark 19 = .ok (.getfield 84, 3) := by decide +kernel
theorem dX9_mark_22 : decode cX9_mark 22 = .ok (.aaload, 1) := by decide +kernel
theorem dX9_mark_23 : decode cX9_mark 23 = .ok (.aload_n 0, 1) := by decide +kernel
theorem dX9_mark_24 : decode cX9_mark 24 = .ok (.getfield 23, 3) := by decide +kernel
theorem dX9_mark_27 : decode cX9_mark 27 = .ok (.invokevirtual 246, 3) := by decide +kernel
theorem dX9_mark_30 : decode cX9_mark 30 = .ok (.aload_n 0, 1) := by decide +kernel
theorem dX9_mark_31 : decode cX9_mark 31 = .ok (.dup, 1) := by decide +kernel
theorem dX9_mark_32 : decode cX9_mark 32 = .ok (.getfield 84, 3) := by decide +kernel
theorem dX9_mark_35 : decode cX9_mark 35 = .ok (.iconst 1, 1) := by decide +kernel
theorem dX9_mark_36 : decode cX9_mark 36 = .ok (.iadd, 1) := by decide +kernel
theorem dX9_mark_37 : decode cX9_mark 37 = .ok (.putfield 84, 3) := by decide +kernel
theorem dX9_mark_40 : decode cX9_mark 40 = .ok (.aload_n 0, 1) := by decide +kernel
theorem dX9_mark_41 : decode cX9_mark 41 = .ok (.aload_n 0, 1) := by decide +kernel
theorem dX9_mark_42 : decode cX9_mark 42 = .ok (.getfield 84, 3) := by decide +kernel
theorem dX9_mark_45 : decode cX9_mark 45 = .ok (.invokevirtual 75, 3) := by decide +kernel
theorem dX9_mark_48 : decode cX9_mark 48 = .ok (.ireturn, 1) := by decide +kernel
theorem dX9_back_0 : decode cX9_back 0 = .ok (.aload_n 0, 1) := by decide +kernel
theorem dX9_back_1 : decode cX9_back 1 = .ok (.getfield 84, 3) := by decide +kernel
theorem dX9_back_4 : decode cX9_back 4 = .ok (.iconst 1, 1) := by decide +kernel
theorem dX9_back_5 : decode cX9_back 5 = .ok (.if_icmp .ge 9, 3) := by decide +kernel
theorem dX9_back_8 : decode cX9_back 8 = .ok (.aload_n 0, 1) := by decide +kernel
theorem dX9_back_9 : decode cX9_back 9 = .ok (.iconst 5, 1) := by decide +kernel
theorem dX9_back_10 : decode cX9_back 10 = .ok (.invokevirtual 58, 3) := by decide +kernel
theorem dX9_back_13 : decode cX9_back 13 = .ok (.ireturn, 1) := by decide +kernel
theorem dX9_back_14 : decode cX9_back 14 = .ok (.aload_n 0, 1) := by decide +kernel
theorem dX9_back_15 : decode cX9_back 15 = .ok (.dup, 1) := by decide +kernel
theorem dX9_back_16 : decode cX9_back 16 = .ok (.getfield 84, 3) := by decide +kernel
theorem dX9_back_19 : decode cX9_back 19 = .ok (.iconst 1, 1) := by decide +kernel
theorem dX9_back_20 : decode cX9_back 20 = .ok (.isub, 1) := by decide +kernel
theorem dX9_back_21 : decode cX9_back 21 = .ok (.putfield 84, 3) := by decide +kernel
theorem dX9_back_24 : decode cX9_back 24 = .ok (.aload_n 0, 1) := by decide +kernel
theorem dX9_back_25 : decode cX9_back 25 = .ok (.getfield 23, 3) := by decide +kernel
theorem dX9_back_28 : decode cX9_back 28 = .ok (.astore_n 1, 1) := by decide +kernel
theorem dX9_back_29 : decode cX9_back 29 = .ok (.aload_n 0, 1) := by decide +kernel
theorem dX9_back_30 : decode cX9_back 30 = .ok (.aload_n 0, 1) := by decide +kernel
theorem dX9_back_31 : decode cX9_back 31 = .ok (.getfield 30, 3) := by decide +kernel
theorem dX9_back_34 : decode cX9_back 34 = .ok (.aload_n 0, 1) := by decide +kernel
theorem dX9_back_35 : decode cX9_back 35 = .ok (.getfield 84, 3) := by decide +kernel
theorem dX9_back_38 : decode cX9_back 38 = .ok (.aaload, 1) := by decide +kernel
theorem dX9_back_39 : decode cX9_back 39 = .ok (.putfield 23, 3) := by decide +kernel
theorem dX9_back_42 : decode cX9_back 42 = .ok (.aload_n 0, 1) := by decide +kernel
theorem dX9_back_43 : decode cX9_back 43 = .ok (.getfield 30, 3) := by decide +kernel
theorem dX9_back_46 : decode cX9_back 46 = .ok (.aload_n 0, 1) := by decide +kernel
theorem dX9_back_47 : decode cX9_back 47 = .ok (.getfield 84, 3) := by decide +kernel
theorem dX9_back_50 : decode cX9_back 50 = .ok (.aload_n 1, 1) := by decide +kernel
theorem dX9_back_51 : decode cX9_back 51 = .ok (.aastore, 1) := by decide +kernel
theorem dX9_back_52 : decode cX9_back 52 = .ok (.aload_n 0, 1) := by decide +kernel
theorem dX9_back_53 : decode cX9_back 53 = .ok (.aload_n 0, 1) := by decide +kernel
theorem dX9_back_54 : decode cX9_back 54 = .ok (.getfield 84, 3) := by decide +kernel
theorem dX9_back_57 : decode cX9_back 57 = .ok (.invokevirtual 75, 3) := by decide +kernel
theorem dX9_back_60 : decode cX9_back 60 = .ok (.ireturn, 1) := by decide +kernel
theorem dX9_best_0 : decode cX9_best 0 = .ok (.aload_n 0, 1) := by decide +kernel
theorem dX9_best_1 : decode cX9_best 1 = .ok (.getfield 23, 3) := by decide +kernel
theorem dX9_best_4 : decode cX9_best 4 = .ok (.iload_n 1, 1) := by decide +kernel
theorem dX9_best_5 : decode cX9_best 5 = .ok (.invokevirtual 127, 3) := by decide +kernel
theorem dX9_best_8 : decode cX9_best 8 = .ok (.ifnonnull 9, 3) := by decide +kernel
theorem dX9_best_11 : decode cX9_best 11 = .ok (.aload_n 0, 1) := by decide +kernel
theorem dX9_best_12 : decode cX9_best 12 = .ok (.iconst 2, 1) := by decide +kernel
theorem dX9_best_13 : decode cX9_best 13 = .ok (.invokevirtual 58, 3) := by decide +kernel
theorem dX9_best_16 : decode cX9_best 16 = .ok (.ireturn, 1) := by decide +kernel
theorem dX9_best_17 : decode cX9_best 17 = .ok (.aload_n 0, 1) := by decide +kernel
theorem dX9_best_18 : decode cX9_best 18 = .ok (.getfield 44, 3) := by decide +kernel
theorem dX9_best_21 : decode cX9_best 21 = .ok (.aload_n 0, 1) := by decide +kernel
theorem dX9_best_22 : decode cX9_best 22 = .ok (.getfield 23, 3) := by decide +kernel
theorem dX9_best_25 : decode cX9_best 25 = .ok (.invokevirtual 250, 3) := by decide +kernel
theorem dX9_best_28 : decode cX9_best 28 = .ok (.aload_n 0, 1) := by decide +kernel
theorem dX9_best_29 : decode cX9_best 29 = .ok (.aload_n 0, 1) := by decide +kernel
theorem dX9_best_30 : decode cX9_best 30 = .ok (.getfield 44, 3) := by decide +kernel
theorem dX9_best_33 : decode cX9_best 33 = .ok (.iload_n 1, 1) := by decide +kernel
theorem dX9_best_34 : decode cX9_best 34 = .ok (.invokevirtual 253, 3) := by decide +kernel
theorem dX9_best_37 : decode cX9_best 37 = .ok (.invokevirtual 75, 3) := by decide +kernel
theorem dX9_best_40 : decode cX9_best 40 = .ok (.ireturn, 1) := by decide +kernel
theorem dX9_neck_0 : decode cX9_neck 0 = .ok (.aload_n 0, 1) := by decide +kernel
theorem dX9_neck_1 : decode cX9_neck 1 = .ok (.getfield 23, 3) := by decide +kernel
theorem dX9_neck_4 : decode cX9_neck 4 = .ok (.iload_n 1, 1) := by decide +kernel
theorem dX9_neck_5 : decode cX9_neck 5 = .ok (.invokevirtual 127, 3) := by decide +kernel
theorem dX9_neck_8 : decode cX9_neck 8 = .ok (.astore_n 2, 1) := by decide +kernel
theorem dX9_neck_9 : decode cX9_neck 9 = .ok (.aload_n 2, 1) := by decide +kernel
theorem dX9_neck_10 : decode cX9_neck 10 = .ok (.ifnonnull 9, 3) := by decide +kernel
theorem dX9_neck_13 : decode cX9_neck 13 = .ok (.aload_n 0, 1) := by decide +kernel
theorem dX9_neck_14 : decode cX9_neck 14 = .ok (.iconst 2, 1) := by decide +kernel
theorem dX9_neck_15 : decode cX9_neck 15 = .ok (.invokevirtual 58, 3) := by decide +kernel
theorem dX9_neck_18 : decode cX9_neck 18 = .ok (.ireturn, 1) := by decide +kernel
theorem dX9_neck_19 : decode cX9_neck 19 = .ok (.aload_n 2, 1) := by decide +kernel
theorem dX9_neck_20 : decode cX9_neck 20 = .ok (.getfield 222, 3) := by decide +kernel
theorem dX9_neck_23 : decode cX9_neck 23 = .ok (.ifCond .ne 9, 3) := by decide +kernel
theorem dX9_neck_26 : decode cX9_neck 26 = .ok (.aload_n 0, 1) := by decide +kernel
theorem dX9_neck_27 : decode cX9_neck 27 = .ok (.iconst 5, 1) := by decide +kernel
theorem dX9_neck_28 : decode cX9_neck 28 = .ok (.invokevirtual 58, 3) := by decide +kernel
theorem dX9_neck_31 : decode cX9_neck 31 = .ok (.ireturn, 1) := by decide +kernel
theorem dX9_neck_32 : decode cX9_neck 32 = .ok (.aload_n 0, 1) := by decide +kernel
theorem dX9_neck_33 : decode cX9_neck 33 = .ok (.getfield 44, 3) := by decide +kernel
theorem dX9_neck_36 : decode cX9_neck 36 = .ok (.aload_n 0, 1) := by decide +kernel
theorem dX9_neck_37 : decode cX9_neck 37 = .ok (.getfield 23, 3) := by decide +kernel
theorem dX9_neck_40 : decode cX9_neck 40 = .ok (.invokevirtual 250, 3) := by decide +kernel
theorem dX9_neck_43 : decode cX9_neck 43 = .ok (.aload_n 0, 1) := by decide +kernel
theorem dX9_neck_44 : decode cX9_neck 44 = .ok (.aload_n 0, 1) := by decide +kernel
theorem dX9_neck_45 : decode cX9_neck 45 = .ok (.getfield 44, 3) := by decide +kernel
theorem dX9_neck_48 : decode cX9_neck 48 = .ok (.iload_n 1, 1) := by decide +kernel
theorem dX9_neck_49 : decode cX9_neck 49 = .ok (.invokevirtual 256, 3) := by decide +kernel
theorem dX9_neck_52 : decode cX9_neck 52 = .ok (.invokevirtual 75, 3) := by decide +kernel
theorem dX9_neck_55 : decode cX9_neck 55 = .ok (.ireturn, 1) := by decide +kernel
theorem dX9_when_0 : decode cX9_when 0 = .ok (.aload_n 0, 1) := by decide +kernel
theorem dX9_when_1 : decode cX9_when 1 = .ok (.getfield 23, 3) := by decide +kernel
theorem dX9_when_4 : decode cX9_when 4 = .ok (.iload_n 1, 1) := by decide +kernel
theorem dX9_when_5 : decode cX9_when 5 = .ok (.invokevirtual 127, 3) := by decide +kernel
theorem dX9_when_8 : decode cX9_when 8 = .ok (.ifnonnull 11, 3) := by decide +kernel
theorem dX9_when_11 : decode cX9_when 11 = .ok (.aload_n 0, 1) := by decide +kernel
theorem dX9_when_12 : decode cX9_when 12 = .ok (.iconst 2, 1) := by decide +kernel
theorem dX9_when_13 : decode cX9_when 13 = .ok (.invokevirtual 58, 3) := by decide +kernel
theorem dX9_when_16 : decode cX9_when 16 = .ok (.goto 9, 3) := by decide +kernel
theorem dX9_when_19 : decode cX9_when 19 = .ok (.aload_n 0, 1) := by decide +kernel
theorem dX9_when_20 : decode cX9_when 20 = .ok (.iconst 0, 1) := by decide +kernel
theorem dX9_when_21 : decode cX9_when 21 = .ok (.iload_n 1, 1) := by decide +kernel
theorem dX9_when_22 : decode cX9_when 22 = .ok (.invokevirtual 259, 3) := by decide +kernel
theorem dX9_when_25 : decode cX9_when 25 = .ok (.ireturn, 1) := by decide +kernel
theorem dX9_closes_0 : decode cX9_closes 0 = .ok (.iload_n 1, 1) := by decide +kernel
theorem dX9_closes_1 : decode cX9_closes 1 = .ok (.ifCond .ge 11, 3) := by decide +kernel
theorem dX9_closes_4 : decode cX9_closes 4 = .ok (.aload_n 0, 1) := by decide +kernel
theorem dX9_closes_5 : decode cX9_closes 5 = .ok (.iconst 1, 1) := by decide +kernel
theorem dX9_closes_6 : decode cX9_closes 6 = .ok (.invokevirtual 58, 3) := by decide +kernel
theorem dX9_closes_9 : decode cX9_closes 9 = .ok (.goto 9, 3) := by decide +kernel
theorem dX9_closes_12 : decode cX9_closes 12 = .ok (.aload_n 0, 1) := by decide +kernel
theorem dX9_closes_13 : decode cX9_closes 13 = .ok (.iconst 1, 1) := by decide +kernel
theorem dX9_closes_14 : decode cX9_closes 14 = .ok (.iload_n 1, 1) := by decide +kernel
theorem dX9_closes_15 : decode cX9_closes 15 = .ok (.invokevirtual 259, 3) := by decide +kernel
theorem dX9_closes_18 : decode cX9_closes 18 = .ok (.ireturn, 1) := by decide +kernel
theorem dX9_caught_0 : decode cX9_caught 0 = .ok (.aload_n 0, 1) := by decide +kernel
theorem dX9_caught_1 : decode cX9_caught 1 = .ok (.getfield 23, 3) := by decide +kernel
theorem dX9_caught_4 : decode cX9_caught 4 = .ok (.iload_n 1, 1) := by decide +kernel
theorem dX9_caught_5 : decode cX9_caught 5 = .ok (.invokevirtual 127, 3) := by decide +kernel
theorem dX9_caught_8 : decode cX9_caught 8 = .ok (.ifnonnull 11, 3) := by decide +kernel
theorem dX9_caught_11 : decode cX9_caught 11 = .ok (.aload_n 0, 1) := by decide +kernel
theorem dX9_caught_12 : decode cX9_caught 12 = .ok (.iconst 2, 1) := by decide +kernel
theorem dX9_caught_13 : decode cX9_caught 13 = .ok (.invokevirtual 58, 3) := by decide +kernel
theorem dX9_caught_16 : decode cX9_caught 16 = .ok (.goto 9, 3) := by decide +kernel
theorem dX9_caught_19 : decode cX9_caught 19 = .ok (.aload_n 0, 1) := by decide +kernel
theorem dX9_caught_20 : decode cX9_caught 20 = .ok (.iconst 2, 1) := by decide +kernel
theorem dX9_caught_21 : decode cX9_caught 21 = .ok (.iload_n 1, 1) := by decide +kernel
theorem dX9_caught_22 : decode cX9_caught 22 = .ok (.invokevirtual 259, 3) := by decide +kernel
theorem dX9_caught_25 : decode cX9_caught 25 = .ok (.ireturn, 1) := by decide +kernel
theorem dX9_after_0 : decode cX9_after 0 = .ok (.aload_n 0, 1) := by decide +kernel
theorem dX9_after_1 : decode cX9_after 1 = .ok (.iload_n 1, 1) := by decide +kernel
theorem dX9_after_2 : decode cX9_after 2 = .ok (.iload_n 2, 1) := by decide +kernel
theorem dX9_after_3 : decode cX9_after 3 = .ok (.iconst 0, 1) := by decide +kernel
theorem dX9_after_4 : decode cX9_after 4 = .ok (.invokevirtual 262, 3) := by decide +kernel
theorem dX9_after_7 : decode cX9_after 7 = .ok (.ireturn, 1) := by decide +kernel
theorem dX9_without_0 : decode cX9_without 0 = .ok (.iload_n 3, 1) := by decide +kernel
theorem dX9_without_1 : decode cX9_without 1 = .ok (.iconst 1, 1) := by decide +kernel
theorem dX9_without_2 : decode cX9_without 2 = .ok (.if_icmp .lt 9, 3) := by decide +kernel
theorem dX9_without_5 : decode cX9_without 5 = .ok (.iload_n 3, 1) := by decide +kernel
theorem dX9_without_6 : decode cX9_without 6 = .ok (.bipush 120, 2) := by decide +kernel
theorem dX9_without_8 : decode cX9_without 8 = .ok (.if_icmp .le 9, 3) := by decide +kernel
theorem dX9_without_11 : decode cX9_without 11 = .ok (.aload_n 0, 1) := by decide +kernel
theorem dX9_without_12 : decode cX9_without 12 = .ok (.iconst 1, 1) := by decide +kernel
theorem dX9_without_13 : decode cX9_without 13 = .ok (.invokevirtual 58, 3) := by decide +kernel
theorem dX9_without_16 : decode cX9_without 16 = .ok (.ireturn, 1) := by decide +kernel
theorem dX9_without_17 : decode cX9_without 17 = .ok (.aload_n 0, 1) := by decide +kernel
theorem dX9_without_18 : decode cX9_without 18 = .ok (.getfield 23, 3) := by decide +kernel
theorem dX9_without_21 : decode cX9_without 21 = .ok (.iload_n 1, 1) := by decide +kernel
theorem dX9_without_22 : decode cX9_without 22 = .ok (.invokevirtual 127, 3) := by decide +kernel
theorem dX9_without_25 : decode cX9_without 25 = .ok (.ifnull 14, 3) := by decide +kernel
theorem dX9_without_28 : decode cX9_without 28 = .ok (.aload_n 0, 1) := by decide +kernel
theorem dX9_without_29 : decode cX9_without 29 = .ok (.getfield 23, 3) := by decide +kernel
theorem dX9_without_32 : decode cX9_without 32 = .ok (.iload_n 2, 1) := by decide +kernel
theorem dX9_without_33 : decode cX9_without 33 = .ok (.invokevirtual 127, 3) := by decide +kernel
theorem dX9_without_36 : decode cX9_without 36 = .ok (.ifnonnull 9, 3) := by decide +kernel
theorem dX9_without_39 : decode cX9_without 39 = .ok (.aload_n 0, 1) := by decide +kernel
theorem dX9_without_40 : decode cX9_without 40 = .ok (.iconst 2, 1) := by decide +kernel
theorem dX9_without_41 : decode cX9_without 41 = .ok (.invokevirtual 58, 3) := by decide +kernel
theorem dX9_without_44 : decode cX9_without 44 = .ok (.ireturn, 1) := by decide +kernel
theorem dX9_without_45 : decode cX9_without 45 = .ok (.aload_n 0, 1) := by decide +kernel
theorem dX9_without_46 : decode cX9_without 46 = .ok (.getfield 27, 3) := by decide +kernel
theorem dX9_without_49 : decode cX9_without 49 = .ok (.aload_n 0, 1) := by decide +kernel
theorem dX9_without_50 : decode cX9_without 50 = .ok (.getfield 23, 3) := by decide +kernel
theorem dX9_without_53 : decode cX9_without 53 = .ok (.invokevirtual 246, 3) := by decide +kernel
theorem dX9_without_56 : decode cX9_without 56 = .ok (.aload_n 0, 1) := by decide +kernel
theorem dX9_without_57 : decode cX9_without 57 = .ok (.getfield 27, 3) := by decide +kernel
theorem dX9_without_60 : decode cX9_without 60 = .ok (.iload_n 1, 1) := by decide +kernel
theorem dX9_without_61 : decode cX9_without 61 = .ok (.invokevirtual 127, 3) := by decide +kernel
theorem dX9_without_64 : decode cX9_without 64 = .ok (.astore 4, 2) := by decide +kernel
theorem dX9_without_66 : decode cX9_without 66 = .ok (.aload_n 0, 1) := by decide +kernel
theorem dX9_without_67 : decode cX9_without 67 = .ok (.getfield 27, 3) := by decide +kernel
theorem dX9_without_70 : decode cX9_without 70 = .ok (.iload_n 2, 1) := by decide +kernel
theorem dX9_without_71 : decode cX9_without 71 = .ok (.invokevirtual 127, 3) := by decide +kernel
theorem dX9_without_74 : decode cX9_without 74 = .ok (.astore 5, 2) := by decide +kernel
theorem dX9_without_76 : decode cX9_without 76 = .ok (.aload 4, 2) := by decide +kernel
theorem dX9_without_78 : decode cX9_without 78 = .ok (.ifnull 8, 3) := by decide +kernel
theorem dX9_without_81 : decode cX9_without 81 = .ok (.aload 5, 2) := by decide +kernel
theorem dX9_without_83 : decode cX9_without 83 = .ok (.ifnonnull 9, 3) := by decide +kernel
theorem dX9_without_86 : decode cX9_without 86 = .ok (.aload_n 0, 1) := by decide +kernel
theorem dX9_without_87 : decode cX9_without 87 = .ok (.iconst 2, 1) := by decide +kernel
theorem dX9_without_88 : decode cX9_without 88 = .ok (.invokevirtual 58, 3) := by decide +kernel
theorem dX9_without_91 : decode cX9_without 91 = .ok (.ireturn, 1) := by decide +kernel
theorem dX9_without_92 : decode cX9_without 92 = .ok (.iload_n 1, 1) := by decide +kernel
theorem dX9_without_93 : decode cX9_without 93 = .ok (.iload_n 2, 1) := by decide +kernel
theorem dX9_without_94 : decode cX9_without 94 = .ok (.if_icmp .eq 9, 3) := by decide +kernel
theorem dX9_without_97 : decode cX9_without 97 = .ok (.aload 5, 2) := by decide +kernel
theorem dX9_without_99 : decode cX9_without 99 = .ok (.iconst 0, 1) := by decide +kernel
theorem dX9_without_100 : decode cX9_without 100 = .ok (.putfield 222, 3) := by decide +kernel
theorem dX9_without_103 : decode cX9_without 103 = .ok (.aload 4, 2) := by decide +kernel
theorem dX9_without_105 : decode cX9_without 105 = .ok (.getfield 266, 3) := by decide +kernel
theorem dX9_without_108 : decode cX9_without 108 = .ok (.istore 6, 2) := by decide +kernel
theorem dX9_without_110 : decode cX9_without 110 = .ok (.aload_n 0, 1) := by decide +kernel
theorem dX9_without_111 : decode cX9_without 111 = .ok (.getfield 27, 3) := by decide +kernel
theorem dX9_without_114 : decode cX9_without 114 = .ok (.iload_n 3, 1) := by decide +kernel
theorem dX9_without_115 : decode cX9_without 115 = .ok (.invokevirtual 243, 3) := by decide +kernel
theorem dX9_without_118 : decode cX9_without 118 = .ok (.aload_n 0, 1) := by decide +kernel
theorem dX9_without_119 : decode cX9_without 119 = .ok (.aload 4, 2) := by decide +kernel
theorem dX9_without_121 : decode cX9_without 121 = .ok (.getfield 266, 3) := by decide +kernel
theorem dX9_without_124 : decode cX9_without 124 = .ok (.iload 6, 2) := by decide +kernel
theorem dX9_without_126 : decode cX9_without 126 = .ok (.isub, 1) := by decide +kernel
theorem dX9_without_127 : decode cX9_without 127 = .ok (.invokevirtual 75, 3) := by decide +kernel
theorem dX9_without_130 : decode cX9_without 130 = .ok (.ireturn, 1) := by decide +kernel
theorem dX9_blind_0 : decode cX9_blind 0 = .ok (.aload_n 0, 1) := by decide +kernel
theorem dX9_blind_1 : decode cX9_blind 1 = .ok (.iload_n 1, 1) := by decide +kernel
theorem dX9_blind_2 : decode cX9_blind 2 = .ok (.iload_n 2, 1) := by decide +kernel
theorem dX9_blind_3 : decode cX9_blind 3 = .ok (.iconst 1, 1) := by decide +kernel
theorem dX9_blind_4 : decode cX9_blind 4 = .ok (.invokevirtual 262, 3) := by decide +kernel
theorem dX9_blind_7 : decode cX9_blind 7 = .ok (.ireturn, 1) := by decide +kernel
theorem dX9_least_0 : decode cX9_least 0 = .ok (.iload_n 2, 1) := by decide +kernel
theorem dX9_least_1 : decode cX9_least 1 = .ok (.ifCond .lt 19, 3) := by decide +kernel
theorem dX9_least_4 : decode cX9_least 4 = .ok (.iload_n 2, 1) := by decide +kernel
theorem dX9_least_5 : decode cX9_least 5 = .ok (.iconst 1, 1) := by decide +kernel
theorem dX9_least_6 : decode cX9_least 6 = .ok (.if_icmp .gt 14, 3) := by decide +kernel
theorem dX9_least_9 : decode cX9_least 9 = .ok (.iload_n 3, 1) := by decide +kernel
theorem dX9_least_10 : decode cX9_least 10 = .ok (.iconst 1, 1) := by decide +kernel
theorem dX9_least_11 : decode cX9_least 11 = .ok (.if_icmp .lt 9, 3) := by decide +kernel
theorem dX9_least_14 : decode cX9_least 14 = .ok (.iload_n 3, 1) := by decide +kernel
theorem dX9_least_15 : decode cX9_least 15 = .ok (.bipush 10, 2) := by decide +kernel
theorem dX9_least_17 : decode cX9_least 17 = .ok (.if_icmp .le 9, 3) := by decide +kernel
theorem dX9_least_20 : decode cX9_least 20 = .ok (.aload_n 0, 1) := by decide +kernel
theorem dX9_least_21 : decode cX9_least 21 = .ok (.iconst 1, 1) := by decide +kernel
theorem dX9_least_22 : decode cX9_least 22 = .ok (.invokevirtual 58, 3) := by decide +kernel
theorem dX9_least_25 : decode cX9_least 25 = .ok (.ireturn, 1) := by decide +kernel
theorem dX9_least_26 : decode cX9_least 26 = .ok (.aload_n 0, 1) := by decide +kernel
theorem dX9_least_27 : decode cX9_least 27 = .ok (.getfield 23, 3) := by decide +kernel
theorem dX9_least_30 : decode cX9_least 30 = .ok (.iload_n 1, 1) := by decide +kernel
theorem dX9_least_31 : decode cX9_least 31 = .ok (.invokevirtual 118, 3) := by decide +kernel
theorem dX9_least_34 : decode cX9_least 34 = .ok (.ifnonnull 9, 3) := by decide +kernel
theorem dX9_least_37 : decode cX9_least 37 = .ok (.aload_n 0, 1) := by decide +kernel
theorem dX9_least_38 : decode cX9_least 38 = .ok (.iconst 2, 1) := by decide +kernel
theorem dX9_least_39 : decode cX9_least 39 = .ok (.invokevirtual 58, 3) := by decide +kernel
theorem dX9_least_42 : decode cX9_least 42 = .ok (.ireturn, 1) := by decide +kernel
theorem dX9_least_43 : decode cX9_least 43 = .ok (.iload_n 2, 1) := by decide +kernel
theorem dX9_least_44 : decode cX9_least 44 = .ok (.ifCond .ne 7, 3) := by decide +kernel
theorem dX9_least_47 : decode cX9_least 47 = .ok (.iconst 1, 1) := by decide +kernel
theorem dX9_least_48 : decode cX9_least 48 = .ok (.goto 5, 3) := by decide +kernel
theorem dX9_least_51 : decode cX9_least 51 = .ok (.bipush 10, 2) := by decide +kernel
theorem dX9_least_53 : decode cX9_least 53 = .ok (.istore 4, 2) := by decide +kernel
theorem dX9_least_55 : decode cX9_least 55 = .ok (.iload_n 2, 1) := by decide +kernel
theorem dX9_least_56 : decode cX9_least 56 = .ok (.ifCond .ne 8, 3) := by decide +kernel
theorem dX9_least_59 : decode cX9_least 59 = .ok (.bipush 9, 2) := by decide +kernel
theorem dX9_least_61 : decode cX9_least 61 = .ok (.goto 5, 3) := by decide +kernel
theorem dX9_least_64 : decode cX9_least 64 = .ok (.bipush 60, 2) := by decide +kernel
theorem dX9_least_66 : decode cX9_least 66 = .ok (.istore 5, 2) := by decide +kernel
theorem dX9_least_68 : decode cX9_least 68 = .ok (.iload 4, 2) := by decide +kernel
theorem dX9_least_70 : decode cX9_least 70 = .ok (.istore 6, 2) := by decide +kernel
theorem dX9_least_72 : decode cX9_least 72 = .ok (.iload 6, 2) := by decide +kernel
theorem dX9_least_74 : decode cX9_least 74 = .ok (.iload 5, 2) := by decide +kernel
theorem dX9_least_76 : decode cX9_least 76 = .ok (.if_icmp .gt 32, 3) := by decide +kernel
theorem dX9_least_79 : decode cX9_least 79 = .ok (.aload_n 0, 1) := by decide +kernel
theorem dX9_least_80 : decode cX9_least 80 = .ok (.iload_n 1, 1) := by decide +kernel
theorem dX9_least_81 : decode cX9_least 81 = .ok (.iload_n 2, 1) := by decide +kernel
theorem dX9_least_82 : decode cX9_least 82 = .ok (.iload 6, 2) := by decide +kernel
theorem dX9_least_84 : decode cX9_least 84 = .ok (.iload_n 3, 1) := by decide +kernel
theorem dX9_least_85 : decode cX9_least 85 = .ok (.invokevirtual 269, 3) := by decide +kernel
theorem dX9_least_88 : decode cX9_least 88 = .ok (.ifCond .eq 10, 3) := by decide +kernel
theorem dX9_least_91 : decode cX9_least 91 = .ok (.aload_n 0, 1) := by decide +kernel
theorem dX9_least_92 : decode cX9_least 92 = .ok (.iload 6, 2) := by decide +kernel
theorem dX9_least_94 : decode cX9_least 94 = .ok (.invokevirtual 75, 3) := by decide +kernel
theorem dX9_least_97 : decode cX9_least 97 = .ok (.ireturn, 1) := by decide +kernel
theorem dX9_least_98 : decode cX9_least 98 = .ok (.iload 6, 2) := by decide +kernel
theorem dX9_least_100 : decode cX9_least 100 = .ok (.iload 4, 2) := by decide +kernel
theorem dX9_least_102 : decode cX9_least 102 = .ok (.iadd, 1) := by decide +kernel
theorem dX9_least_103 : decode cX9_least 103 = .ok (.istore 6, 2) := by decide +kernel
theorem dX9_least_105 : decode cX9_least 105 = .ok (.goto (-33), 3) := by decide +kernel
theorem dX9_least_108 : decode cX9_least 108 = .ok (.aload_n 0, 1) := by decide +kernel
theorem dX9_least_109 : decode cX9_least 109 = .ok (.bipush 6, 2) := by decide +kernel
theorem dX9_least_111 : decode cX9_least 111 = .ok (.invokevirtual 58, 3) := by decide +kernel
theorem dX9_least_114 : decode cX9_least 114 = .ok (.ireturn, 1) := by decide +kernel
theorem dX9_refuse_0 : decode cX9_refuse 0 = .ok (.aload_n 0, 1) := by decide +kernel
theorem dX9_refuse_1 : decode cX9_refuse 1 = .ok (.iload_n 1, 1) := by decide +kernel
theorem dX9_refuse_2 : decode cX9_refuse 2 = .ok (.putfield 48, 3) := by decide +kernel
theorem dX9_refuse_5 : decode cX9_refuse 5 = .ok (.iconst (-1), 1) := by decide +kernel
theorem dX9_refuse_6 : decode cX9_refuse 6 = .ok (.ireturn, 1) := by decide +kernel
theorem dX9_answer_0 : decode cX9_answer 0 = .ok (.aload_n 0, 1) := by decide +kernel
theorem dX9_answer_1 : decode cX9_answer 1 = .ok (.iconst 0, 1) := by decide +kernel
theorem dX9_answer_2 : decode cX9_answer 2 = .ok (.putfield 48, 3) := by decide +kernel
theorem dX9_answer_5 : decode cX9_answer 5 = .ok (.iload_n 1, 1) := by decide +kernel
theorem dX9_answer_6 : decode cX9_answer 6 = .ok (.ireturn, 1) := by decide +kernel
theorem dX9_putBytes_0 : decode cX9_putBytes 0 = .ok (.bipush 24, 2) := by decide +kernel
theorem dX9_putBytes_2 : decode cX9_putBytes 2 = .ok (.istore_n 2, 1) := by decide +kernel
theorem dX9_putBytes_3 : decode cX9_putBytes 3 = .ok (.iload_n 2, 1) := by decide +kernel
theorem dX9_putBytes_4 : decode cX9_putBytes 4 = .ok (.ifCond .lt 44, 3) := by decide +kernel
theorem dX9_putBytes_7 : decode cX9_putBytes 7 = .ok (.aload_n 0, 1) := by decide +kernel
theorem dX9_putBytes_8 : decode cX9_putBytes 8 = .ok (.getfield 51, 3) := by decide +kernel
theorem dX9_putBytes_11 : decode cX9_putBytes 11 = .ok (.aload_n 0, 1) := by decide +kernel
theorem dX9_putBytes_12 : decode cX9_putBytes 12 = .ok (.getfield 9, 3) := by decide +kernel
theorem dX9_putBytes_15 : decode cX9_putBytes 15 = .ok (.arraylength, 1) := by decide +kernel
theorem dX9_putBytes_16 : decode cX9_putBytes 16 = .ok (.if_icmp .ge 26, 3) := by decide +kernel
theorem dX9_putBytes_19 : decode cX9_putBytes 19 = .ok (.aload_n 0, 1) := by decide +kernel
theorem dX9_putBytes_20 : decode cX9_putBytes 20 = .ok (.getfield 9, 3) := by decide +kernel
theorem dX9_putBytes_23 : decode cX9_putBytes 23 = .ok (.aload_n 0, 1) := by decide +kernel
theorem dX9_putBytes_24 : decode cX9_putBytes 24 = .ok (.getfield 51, 3) := by decide +kernel
theorem dX9_putBytes_27 : decode cX9_putBytes 27 = .ok (.iload_n 1, 1) := by decide +kernel
theorem dX9_putBytes_28 : decode cX9_putBytes 28 = .ok (.iload_n 2, 1) := by decide +kernel
theorem dX9_putBytes_29 : decode cX9_putBytes 29 = .ok (.ishr, 1) := by decide +kernel
theorem dX9_putBytes_30 : decode cX9_putBytes 30 = .ok (.i2b, 1) := by decide +kernel
theorem dX9_putBytes_31 : decode cX9_putBytes 31 = .ok (.bastore, 1) := by decide +kernel
theorem dX9_putBytes_32 : decode cX9_putBytes 32 = .ok (.aload_n 0, 1) := by decide +kernel
theorem dX9_putBytes_33 : decode cX9_putBytes 33 = .ok (.dup, 1) := by decide +kernel
theorem dX9_putBytes_34 : decode cX9_putBytes 34 = .ok (.getfield 51, 3) := by decide +kernel
theorem dX9_putBytes_37 : decode cX9_putBytes 37 = .ok (.iconst 1, 1) := by decide +kernel
theorem dX9_putBytes_38 : decode cX9_putBytes 38 = .ok (.iadd, 1) := by decide +kernel
theorem dX9_putBytes_39 : decode cX9_putBytes 39 = .ok (.putfield 51, 3) := by decide +kernel
theorem dX9_putBytes_42 : decode cX9_putBytes 42 = .ok (.iinc 2 (-8), 3) := by decide +kernel
theorem dX9_putBytes_45 : decode cX9_putBytes 45 = .ok (.goto (-42), 3) := by decide +kernel
theorem dX9_putBytes_48 : decode cX9_putBytes 48 = .ok (.return_, 1) := by decide +kernel
theorem dX9_ticksUntil_0 : decode cX9_ticksUntil 0 = .ok (.aload_n 0, 1) := by decide +kernel
theorem dX9_ticksUntil_1 : decode cX9_ticksUntil 1 = .ok (.getfield 27, 3) := by decide +kernel
theorem dX9_ticksUntil_4 : decode cX9_ticksUntil 4 = .ok (.aload_n 0, 1) := by decide +kernel
theorem dX9_ticksUntil_5 : decode cX9_ticksUntil 5 = .ok (.getfield 23, 3) := by decide +kernel
theorem dX9_ticksUntil_8 : decode cX9_ticksUntil 8 = .ok (.invokevirtual 246, 3) := by decide +kernel
theorem dX9_ticksUntil_11 : decode cX9_ticksUntil 11 = .ok (.iconst 0, 1) := by decide +kernel
theorem dX9_ticksUntil_12 : decode cX9_ticksUntil 12 = .ok (.istore_n 3, 1) := by decide +kernel
theorem dX9_ticksUntil_13 : decode cX9_ticksUntil 13 = .ok (.iload_n 3, 1) := by decide +kernel
theorem dX9_ticksUntil_14 : decode cX9_ticksUntil 14 = .ok (.bipush 120, 2) := by decide +kernel
theorem dX9_ticksUntil_16 : decode cX9_ticksUntil 16 = .ok (.if_icmp .ge 32, 3) := by decide +kernel
theorem dX9_ticksUntil_19 : decode cX9_ticksUntil 19 = .ok (.aload_n 0, 1) := by decide +kernel
theorem dX9_ticksUntil_20 : decode cX9_ticksUntil 20 = .ok (.iload_n 1, 1) := by decide +kernel
theorem dX9_ticksUntil_21 : decode cX9_ticksUntil 21 = .ok (.iload_n 2, 1) := by decide +kernel
theorem dX9_ticksUntil_22 : decode cX9_ticksUntil 22 = .ok (.invokevirtual 273, 3) := by decide +kernel
theorem dX9_ticksUntil_25 : decode cX9_ticksUntil 25 = .ok (.ifCond .eq 9, 3) := by decide +kernel
theorem dX9_ticksUntil_28 : decode cX9_ticksUntil 28 = .ok (.aload_n 0, 1) := by decide +kernel
theorem dX9_ticksUntil_29 : decode cX9_ticksUntil 29 = .ok (.iload_n 3, 1) := by decide +kernel
theorem dX9_ticksUntil_30 : decode cX9_ticksUntil 30 = .ok (.invokevirtual 75, 3) := by decide +kernel
theorem dX9_ticksUntil_33 : decode cX9_ticksUntil 33 = .ok (.ireturn, 1) := by decide +kernel
theorem dX9_ticksUntil_34 : decode cX9_ticksUntil 34 = .ok (.aload_n 0, 1) := by decide +kernel
theorem dX9_ticksUntil_35 : decode cX9_ticksUntil 35 = .ok (.getfield 27, 3) := by decide +kernel
theorem dX9_ticksUntil_38 : decode cX9_ticksUntil 38 = .ok (.iconst 1, 1) := by decide +kernel
theorem dX9_ticksUntil_39 : decode cX9_ticksUntil 39 = .ok (.invokevirtual 243, 3) := by decide +kernel
theorem dX9_ticksUntil_42 : decode cX9_ticksUntil 42 = .ok (.iinc 3 1, 3) := by decide +kernel
theorem dX9_ticksUntil_45 : decode cX9_ticksUntil 45 = .ok (.goto (-32), 3) := by decide +kernel
theorem dX9_ticksUntil_48 : decode cX9_ticksUntil 48 = .ok (.aload_n 0, 1) := by decide +kernel
theorem dX9_ticksUntil_49 : decode cX9_ticksUntil 49 = .ok (.iload_n 1, 1) := by decide +kernel
theorem dX9_ticksUntil_50 : decode cX9_ticksUntil 50 = .ok (.iload_n 2, 1) := by decide +kernel
theorem dX9_ticksUntil_51 : decode cX9_ticksUntil 51 = .ok (.invokevirtual 273, 3) := by decide +kernel
theorem dX9_ticksUntil_54 : decode cX9_ticksUntil 54 = .ok (.ifCond .eq 12, 3) := by decide +kernel
theorem dX9_ticksUntil_57 : decode cX9_ticksUntil 57 = .ok (.aload_n 0, 1) := by decide +kernel
theorem dX9_ticksUntil_58 : decode cX9_ticksUntil 58 = .ok (.bipush 120, 2) := by decide +kernel
theorem dX9_ticksUntil_60 : decode cX9_ticksUntil 60 = .ok (.invokevirtual 75, 3) := by decide +kernel
theorem dX9_ticksUntil_63 : decode cX9_ticksUntil 63 = .ok (.goto 9, 3) := by decide +kernel
theorem dX9_ticksUntil_66 : decode cX9_ticksUntil 66 = .ok (.aload_n 0, 1) := by decide +kernel
theorem dX9_ticksUntil_67 : decode cX9_ticksUntil 67 = .ok (.bipush 6, 2) := by decide +kernel
theorem dX9_ticksUntil_69 : decode cX9_ticksUntil 69 = .ok (.invokevirtual 58, 3) := by decide +kernel
theorem dX9_ticksUntil_72 : decode cX9_ticksUntil 72 = .ok (.ireturn, 1) := by decide +kernel
theorem dX9_isReached_0 : decode cX9_isReached 0 = .ok (.iload_n 1, 1) := by decide +kernel
theorem dX9_isReached_1 : decode cX9_isReached 1 = .ok (.lookupswitch 53 #[(0, 27), (1, 36)], 27) := by decide +kernel
theorem dX9_isReached_28 : decode cX9_isReached 28 = .ok (.aload_n 0, 1) := by decide +kernel
theorem dX9_isReached_29 : decode cX9_isReached 29 = .ok (.getfield 27, 3) := by decide +kernel
theorem dX9_isReached_32 : decode cX9_isReached 32 = .ok (.iload_n 2, 1) := by decide +kernel
theorem dX9_isReached_33 : decode cX9_isReached 33 = .ok (.invokevirtual 276, 3) := by decide +kernel
theorem dX9_isReached_36 : decode cX9_isReached 36 = .ok (.ireturn, 1) := by decide +kernel
theorem dX9_isReached_37 : decode cX9_isReached 37 = .ok (.aload_n 0, 1) := by decide +kernel
theorem dX9_isReached_38 : decode cX9_isReached 38 = .ok (.getfield 27, 3) := by decide +kernel
theorem dX9_isReached_41 : decode cX9_isReached 41 = .ok (.invokevirtual 115, 3) := by decide +kernel
theorem dX9_isReached_44 : decode cX9_isReached 44 = .ok (.iload_n 2, 1) := by decide +kernel
theorem dX9_isReached_45 : decode cX9_isReached 45 = .ok (.if_icmp .gt 7, 3) := by decide +kernel
theorem dX9_isReached_48 : decode cX9_isReached 48 = .ok (.iconst 1, 1) := by decide +kernel
theorem dX9_isReached_49 : decode cX9_isReached 49 = .ok (.goto 4, 3) := by decide +kernel
theorem dX9_isReached_52 : decode cX9_isReached 52 = .ok (.iconst 0, 1) := by decide +kernel
theorem dX9_isReached_53 : decode cX9_isReached 53 = .ok (.ireturn, 1) := by decide +kernel
theorem dX9_isReached_54 : decode cX9_isReached 54 = .ok (.aload_n 0, 1) := by decide +kernel
theorem dX9_isReached_55 : decode cX9_isReached 55 = .ok (.getfield 27, 3) := by decide +kernel
theorem dX9_isReached_58 : decode cX9_isReached 58 = .ok (.iload_n 2, 1) := by decide +kernel
theorem dX9_isReached_59 : decode cX9_isReached 59 = .ok (.invokevirtual 131, 3) := by decide +kernel
theorem dX9_isReached_62 : decode cX9_isReached 62 = .ok (.ifCond .eq 7, 3) := by decide +kernel
theorem dX9_isReached_65 : decode cX9_isReached 65 = .ok (.iconst 1, 1) := by decide +kernel
theorem dX9_isReached_66 : decode cX9_isReached 66 = .ok (.goto 4, 3) := by decide +kernel
theorem dX9_isReached_69 : decode cX9_isReached 69 = .ok (.iconst 0, 1) := by decide +kernel
theorem dX9_isReached_70 : decode cX9_isReached 70 = .ok (.ireturn, 1) := by decide +kernel
theorem dX9_foretell_0 : decode cX9_foretell 0 = .ok (.iload_n 1, 1) := by decide +kernel
theorem dX9_foretell_1 : decode cX9_foretell 1 = .ok (.ifCond .lt 18, 3) := by decide +kernel
theorem dX9_foretell_4 : decode cX9_foretell 4 = .ok (.iload_n 1, 1) := by decide +kernel
theorem dX9_foretell_5 : decode cX9_foretell 5 = .ok (.bipush 120, 2) := by decide +kernel
theorem dX9_foretell_7 : decode cX9_foretell 7 = .ok (.if_icmp .gt 12, 3) := by decide +kernel
theorem dX9_foretell_10 : decode cX9_foretell 10 = .ok (.iload_n 2, 1) := by decide +kernel
theorem dX9_foretell_11 : decode cX9_foretell 11 = .ok (.ifCond .lt 8, 3) := by decide +kernel
theorem dX9_foretell_14 : decode cX9_foretell 14 = .ok (.iload_n 2, 1) := by decide +kernel
theorem dX9_foretell_15 : decode cX9_foretell 15 = .ok (.iconst 4, 1) := by decide +kernel
theorem dX9_foretell_16 : decode cX9_foretell 16 = .ok (.if_icmp .le 9, 3) := by decide +kernel
theorem dX9_foretell_19 : decode cX9_foretell 19 = .ok (.aload_n 0, 1) := by decide +kernel
theorem dX9_foretell_20 : decode cX9_foretell 20 = .ok (.iconst 1, 1) := by decide +kernel
theorem dX9_foretell_21 : decode cX9_foretell 21 = .ok (.invokevirtual 58, 3) := by decide +kernel
theorem dX9_foretell_24 : decode cX9_foretell 24 = .ok (.ireturn, 1) := by decide +kernel
theorem dX9_foretell_25 : decode cX9_foretell 25 = .ok (.aload_n 0, 1) := by decide +kernel
theorem dX9_foretell_26 : decode cX9_foretell 26 = .ok (.getfield 27, 3) := by decide +kernel
theorem dX9_foretell_29 : decode cX9_foretell 29 = .ok (.aload_n 0, 1) := by decide +kernel
theorem dX9_foretell_30 : decode cX9_foretell 30 = .ok (.getfield 23, 3) := by decide +kernel
theorem dX9_foretell_33 : decode cX9_foretell 33 = .ok (.invokevirtual 246, 3) := by decide +kernel
theorem dX9_foretell_36 : decode cX9_foretell 36 = .ok (.aload_n 0, 1) := by decide +kernel
theorem dX9_foretell_37 : decode cX9_foretell 37 = .ok (.getfield 27, 3) := by decide +kernel
theorem dX9_foretell_40 : decode cX9_foretell 40 = .ok (.iload_n 3, 1) := by decide +kernel
theorem dX9_foretell_41 : decode cX9_foretell 41 = .ok (.putfield 279, 3) := by decide +kernel
theorem dX9_foretell_44 : decode cX9_foretell 44 = .ok (.aload_n 0, 1) := by decide +kernel
theorem dX9_foretell_45 : decode cX9_foretell 45 = .ok (.getfield 27, 3) := by decide +kernel
theorem dX9_foretell_48 : decode cX9_foretell 48 = .ok (.iload_n 1, 1) := by decide +kernel
theorem dX9_foretell_49 : decode cX9_foretell 49 = .ok (.invokevirtual 243, 3) := by decide +kernel
theorem dX9_foretell_52 : decode cX9_foretell 52 = .ok (.iload_n 2, 1) := by decide +kernel
theorem dX9_foretell_53 : decode cX9_foretell 53 = .ok (.tableswitch 95 0 3 #[31, 43, 55, 75], 31) := by decide +kernel
theorem dX9_foretell_84 : decode cX9_foretell 84 = .ok (.aload_n 0, 1) := by decide +kernel
theorem dX9_foretell_85 : decode cX9_foretell 85 = .ok (.aload_n 0, 1) := by decide +kernel
theorem dX9_foretell_86 : decode cX9_foretell 86 = .ok (.getfield 27, 3) := by decide +kernel
theorem dX9_foretell_89 : decode cX9_foretell 89 = .ok (.invokevirtual 112, 3) := by decide +kernel
theorem dX9_foretell_92 : decode cX9_foretell 92 = .ok (.invokevirtual 75, 3) := by decide +kernel
theorem dX9_foretell_95 : decode cX9_foretell 95 = .ok (.ireturn, 1) := by decide +kernel
theorem dX9_foretell_96 : decode cX9_foretell 96 = .ok (.aload_n 0, 1) := by decide +kernel
theorem dX9_foretell_97 : decode cX9_foretell 97 = .ok (.aload_n 0, 1) := by decide +kernel
theorem dX9_foretell_98 : decode cX9_foretell 98 = .ok (.getfield 27, 3) := by decide +kernel
theorem dX9_foretell_101 : decode cX9_foretell 101 = .ok (.invokevirtual 115, 3) := by decide +kernel
theorem dX9_foretell_104 : decode cX9_foretell 104 = .ok (.invokevirtual 75, 3) := by decide +kernel
theorem dX9_foretell_107 : decode cX9_foretell 107 = .ok (.ireturn, 1) := by decide +kernel
theorem dX9_foretell_108 : decode cX9_foretell 108 = .ok (.aload_n 0, 1) := by decide +kernel
theorem dX9_foretell_109 : decode cX9_foretell 109 = .ok (.aload_n 0, 1) := by decide +kernel
theorem dX9_foretell_110 : decode cX9_foretell 110 = .ok (.getfield 27, 3) := by decide +kernel
theorem dX9_foretell_113 : decode cX9_foretell 113 = .ok (.invokevirtual 282, 3) := by decide +kernel
theorem dX9_foretell_116 : decode cX9_foretell 116 = .ok (.aload_n 0, 1) := by decide +kernel
theorem dX9_foretell_117 : decode cX9_foretell 117 = .ok (.getfield 23, 3) := by decide +kernel
theorem dX9_foretell_120 : decode cX9_foretell 120 = .ok (.invokevirtual 282, 3) := by decide +kernel
theorem dX9_foretell_123 : decode cX9_foretell 123 = .ok (.isub, 1) := by decide +kernel
theorem dX9_foretell_124 : decode cX9_foretell 124 = .ok (.invokevirtual 75, 3) := by decide +kernel
theorem dX9_foretell_127 : decode cX9_foretell 127 = .ok (.ireturn, 1) := by decide +kernel
theorem dX9_foretell_128 : decode cX9_foretell 128 = .ok (.aload_n 0, 1) := by decide +kernel
theorem dX9_foretell_129 : decode cX9_foretell 129 = .ok (.aload_n 0, 1) := by decide +kernel
theorem dX9_foretell_130 : decode cX9_foretell 130 = .ok (.getfield 27, 3) := by decide +kernel
theorem dX9_foretell_133 : decode cX9_foretell 133 = .ok (.invokevirtual 285, 3) := by decide +kernel
theorem dX9_foretell_136 : decode cX9_foretell 136 = .ok (.aload_n 0, 1) := by decide +kernel
theorem dX9_foretell_137 : decode cX9_foretell 137 = .ok (.getfield 23, 3) := by decide +kernel
theorem dX9_foretell_140 : decode cX9_foretell 140 = .ok (.invokevirtual 285, 3) := by decide +kernel
theorem dX9_foretell_143 : decode cX9_foretell 143 = .ok (.isub, 1) := by decide +kernel
theorem dX9_foretell_144 : decode cX9_foretell 144 = .ok (.invokevirtual 75, 3) := by decide +kernel
theorem dX9_foretell_147 : decode cX9_foretell 147 = .ok (.ireturn, 1) := by decide +kernel
theorem dX9_foretell_148 : decode cX9_foretell 148 = .ok (.aload_n 0, 1) := by decide +kernel
theorem dX9_foretell_149 : decode cX9_foretell 149 = .ok (.aload_n 0, 1) := by decide +kernel
theorem dX9_foretell_150 : decode cX9_foretell 150 = .ok (.getfield 27, 3) := by decide +kernel
theorem dX9_foretell_153 : decode cX9_foretell 153 = .ok (.invokevirtual 288, 3) := by decide +kernel
theorem dX9_foretell_156 : decode cX9_foretell 156 = .ok (.invokevirtual 75, 3) := by decide +kernel
theorem dX9_foretell_159 : decode cX9_foretell 159 = .ok (.ireturn, 1) := by decide +kernel
theorem dX9_losesNone_0 : decode cX9_losesNone 0 = .ok (.aload_n 0, 1) := by decide +kernel
theorem dX9_losesNone_1 : decode cX9_losesNone 1 = .ok (.getfield 27, 3) := by decide +kernel
theorem dX9_losesNone_4 : decode cX9_losesNone 4 = .ok (.aload_n 0, 1) := by decide +kernel
theorem dX9_losesNone_5 : decode cX9_losesNone 5 = .ok (.getfield 23, 3) := by decide +kernel
theorem dX9_losesNone_8 : decode cX9_losesNone 8 = .ok (.invokevirtual 246, 3) := by decide +kernel
theorem dX9_losesNone_11 : decode cX9_losesNone 11 = .ok (.aload_n 0, 1) := by decide +kernel
theorem dX9_losesNone_12 : decode cX9_losesNone 12 = .ok (.getfield 27, 3) := by decide +kernel
theorem dX9_losesNone_15 : decode cX9_losesNone 15 = .ok (.iload_n 1, 1) := by decide +kernel
theorem dX9_losesNone_16 : decode cX9_losesNone 16 = .ok (.invokevirtual 118, 3) := by decide +kernel
theorem dX9_losesNone_19 : decode cX9_losesNone 19 = .ok (.astore 5, 2) := by decide +kernel
theorem dX9_losesNone_21 : decode cX9_losesNone 21 = .ok (.aload 5, 2) := by decide +kernel
theorem dX9_losesNone_23 : decode cX9_losesNone 23 = .ok (.ifnonnull 5, 3) := by decide +kernel
theorem dX9_losesNone_26 : decode cX9_losesNone 26 = .ok (.iconst 0, 1) := by decide +kernel
theorem dX9_losesNone_27 : decode cX9_losesNone 27 = .ok (.ireturn, 1) := by decide +kernel
theorem dX9_losesNone_28 : decode cX9_losesNone 28 = .ok (.aload 5, 2) := by decide +kernel
theorem dX9_losesNone_30 : decode cX9_losesNone 30 = .ok (.iload_n 2, 1) := by decide +kernel
theorem dX9_losesNone_31 : decode cX9_losesNone 31 = .ok (.iload_n 3, 1) := by decide +kernel
theorem dX9_losesNone_32 : decode cX9_losesNone 32 = .ok (.invokevirtual 218, 3) := by decide +kernel
theorem dX9_losesNone_35 : decode cX9_losesNone 35 = .ok (.aload_n 0, 1) := by decide +kernel
theorem dX9_losesNone_36 : decode cX9_losesNone 36 = .ok (.getfield 27, 3) := by decide +kernel
theorem dX9_losesNone_39 : decode cX9_losesNone 39 = .ok (.iload 4, 2) := by decide +kernel
theorem dX9_losesNone_41 : decode cX9_losesNone 41 = .ok (.invokevirtual 243, 3) := by decide +kernel
theorem dX9_losesNone_44 : decode cX9_losesNone 44 = .ok (.aload_n 0, 1) := by decide +kernel
theorem dX9_losesNone_45 : decode cX9_losesNone 45 = .ok (.getfield 27, 3) := by decide +kernel
theorem dX9_losesNone_48 : decode cX9_losesNone 48 = .ok (.getfield 291, 3) := by decide +kernel
theorem dX9_losesNone_51 : decode cX9_losesNone 51 = .ok (.aload_n 0, 1) := by decide +kernel
theorem dX9_losesNone_52 : decode cX9_losesNone 52 = .ok (.getfield 23, 3) := by decide +kernel
theorem dX9_losesNone_55 : decode cX9_losesNone 55 = .ok (.getfield 291, 3) := by decide +kernel
theorem dX9_losesNone_58 : decode cX9_losesNone 58 = .ok (.if_icmp .ne 7, 3) := by decide +kernel
theorem dX9_losesNone_61 : decode cX9_losesNone 61 = .ok (.iconst 1, 1) := by decide +kernel
theorem dX9_losesNone_62 : decode cX9_losesNone 62 = .ok (.goto 4, 3) := by decide +kernel
theorem dX9_losesNone_65 : decode cX9_losesNone 65 = .ok (.iconst 0, 1) := by decide +kernel
theorem dX9_losesNone_66 : decode cX9_losesNone 66 = .ok (.ireturn, 1) := by decide +kernel
theorem dX10_init_0 : decode cX10_init 0 = .ok (.aload_n 0, 1) := by decide +kernel
theorem dX10_init_1 : decode cX10_init 1 = .ok (.invokespecial 1, 3) := by decide +kernel
theorem dX10_init_4 : decode cX10_init 4 = .ok (.aload_n 0, 1) := by decide +kernel
theorem dX10_init_5 : decode cX10_init 5 = .ok (.sipush 29020, 3) := by decide +kernel
theorem dX10_init_8 : decode cX10_init 8 = .ok (.newarray .long, 2) := by decide +kernel
theorem dX10_init_10 : decode cX10_init 10 = .ok (.putfield 7, 3) := by decide +kernel
theorem dX10_init_13 : decode cX10_init 13 = .ok (.aload_n 0, 1) := by decide +kernel
theorem dX10_init_14 : decode cX10_init 14 = .ok (.sipush 600, 3) := by decide +kernel
theorem dX10_init_17 : decode cX10_init 17 = .ok (.newarray .byte, 2) := by decide +kernel
theorem dX10_init_19 : decode cX10_init 19 = .ok (.putfield 13, 3) := by decide +kernel
theorem dX10_init_22 : decode cX10_init 22 = .ok (.aload_n 0, 1) := by decide +kernel
theorem dX10_init_23 : decode cX10_init 23 = .ok (.sipush 600, 3) := by decide +kernel
theorem dX10_init_26 : decode cX10_init 26 = .ok (.newarray .byte, 2) := by decide +kernel
theorem dX10_init_28 : decode cX10_init 28 = .ok (.putfield 17, 3) := by decide +kernel
theorem dX10_init_31 : decode cX10_init 31 = .ok (.aload_n 0, 1) := by decide +kernel
theorem dX10_init_32 : decode cX10_init 32 = .ok (.iconst (-1), 1) := by decide +kernel
theorem dX10_init_33 : decode cX10_init 33 = .ok (.putfield 20, 3) := by decide +kernel
theorem dX10_init_36 : decode cX10_init 36 = .ok (.aload_n 0, 1) := by decide +kernel
theorem dX10_init_37 : decode cX10_init 37 = .ok (.iconst (-1), 1) := by decide +kernel
theorem dX10_init_38 : decode cX10_init 38 = .ok (.putfield 24, 3) := by decide +kernel
theorem dX10_init_41 : decode cX10_init 41 = .ok (.aload_n 0, 1) := by decide +kernel
theorem dX10_init_42 : decode cX10_init 42 = .ok (.bipush 6, 2) := by decide +kernel
theorem dX10_init_44 : decode cX10_init 44 = .ok (.newarray .long, 2) := by decide +kernel
theorem dX10_init_46 : decode cX10_init 46 = .ok (.putfield 27, 3) := by decide +kernel
theorem dX10_init_49 : decode cX10_init 49 = .ok (.aload_n 0, 1) := by decide +kernel
theorem dX10_init_50 : decode cX10_init 50 = .ok (.bipush 6, 2) := by decide +kernel
theorem dX10_init_52 : decode cX10_init 52 = .ok (.newarray .int, 2) := by decide +kernel
theorem dX10_init_54 : decode cX10_init 54 = .ok (.putfield 30, 3) := by decide +kernel
theorem dX10_init_57 : decode cX10_init 57 = .ok (.aload_n 0, 1) := by decide +kernel
theorem dX10_init_58 : decode cX10_init 58 = .ok (.invokevirtual 34, 3) := by decide +kernel
theorem dX10_init_61 : decode cX10_init 61 = .ok (.return_, 1) := by decide +kernel
theorem dX10_status_0 : decode cX10_status 0 = .ok (.aload_n 0, 1) := by decide +kernel
theorem dX10_status_1 : decode cX10_status 1 = .ok (.getfield 37, 3) := by decide +kernel
theorem dX10_status_4 : decode cX10_status 4 = .ok (.ireturn, 1) := by decide +kernel
theorem dX10_refuse_0 : decode cX10_refuse 0 = .ok (.aload_n 0, 1) := by decide +kernel
theorem dX10_refuse_1 : decode cX10_refuse 1 = .ok (.iload_n 1, 1) := by decide +kernel
theorem dX10_refuse_2 : decode cX10_refuse 2 = .ok (.putfield 37, 3) := by decide +kernel
theorem dX10_refuse_5 : decode cX10_refuse 5 = .ok (.iconst (-1), 1) := by decide +kernel
theorem dX10_refuse_6 : decode cX10_refuse 6 = .ok (.ireturn, 1) := by decide +kernel
theorem dX10_isSo_0 : decode cX10_isSo 0 = .ok (.aload_n 0, 1) := by decide +kernel
theorem dX10_isSo_1 : decode cX10_isSo 1 = .ok (.iload_n 1, 1) := by decide +kernel
theorem dX10_isSo_2 : decode cX10_isSo 2 = .ok (.putfield 37, 3) := by decide +kernel
theorem dX10_isSo_5 : decode cX10_isSo 5 = .ok (.iload_n 1, 1) := by decide +kernel
theorem dX10_isSo_6 : decode cX10_isSo 6 = .ok (.ifCond .ne 7, 3) := by decide +kernel
theorem dX10_isSo_9 : decode cX10_isSo 9 = .ok (.iconst 1, 1) := by decide +kernel
theorem dX10_isSo_10 : decode cX10_isSo 10 = .ok (.goto 4, 3) := by decide +kernel
theorem dX10_isSo_13 : decode cX10_isSo 13 = .ok (.iconst 0, 1) := by decide +kernel
theorem dX10_isSo_14 : decode cX10_isSo 14 = .ok (.ireturn, 1) := by decide +kernel
theorem dX10_gives_0 : decode cX10_gives 0 = .ok (.aload_n 0, 1) := by decide +kernel
theorem dX10_gives_1 : decode cX10_gives 1 = .ok (.iconst 0, 1) := by decide +kernel
theorem dX10_gives_2 : decode cX10_gives 2 = .ok (.putfield 37, 3) := by decide +kernel
theorem dX10_gives_5 : decode cX10_gives 5 = .ok (.lload_n 1, 1) := by decide +kernel
theorem dX10_gives_6 : decode cX10_gives 6 = .ok (.l2i, 1) := by decide +kernel
theorem dX10_gives_7 : decode cX10_gives 7 = .ok (.ireturn, 1) := by decide +kernel
theorem dX10_isFrom_0 : decode cX10_isFrom 0 = .ok (.lload_n 0, 1) := by decide +kernel
theorem dX10_isFrom_1 : decode cX10_isFrom 1 = .ok (.lload_n 2, 1) := by decide +kernel
theorem dX10_isFrom_2 : decode cX10_isFrom 2 = .ok (.lcmp, 1) := by decide +kernel
theorem dX10_isFrom_3 : decode cX10_isFrom 3 = .ok (.ifCond .lt 14, 3) := by decide +kernel
theorem dX10_isFrom_6 : decode cX10_isFrom 6 = .ok (.lload_n 0, 1) := by decide +kernel
theorem dX10_isFrom_7 : decode cX10_isFrom 7 = .ok (.lload 4, 2) := by decide +kernel
theorem dX10_isFrom_9 : decode cX10_isFrom 9 = .ok (.lcmp, 1) := by decide +kernel
theorem dX10_isFrom_10 : decode cX10_isFrom 10 = .ok (.ifCond .gt 7, 3) := by decide +kernel
theorem dX10_isFrom_13 : decode cX10_isFrom 13 = .ok (.iconst 1, 1) := by decide +kernel
theorem dX10_isFrom_14 : decode cX10_isFrom 14 = .ok (.goto 4, 3) := by decide +kernel
theorem dX10_isFrom_17 : decode cX10_isFrom 17 = .ok (.iconst 0, 1) := by decide +kernel
theorem dX10_isFrom_18 : decode cX10_isFrom 18 = .ok (.ireturn, 1) := by decide +kernel
theorem dX10_has_0 : decode cX10_has 0 = .ok (.lload_n 0, 1) := by decide +kernel
theorem dX10_has_1 : decode cX10_has 1 = .ok (.iload_n 2, 1) := by decide +kernel
theorem dX10_has_2 : decode cX10_has 2 = .ok (.lshr, 1) := by decide +kernel
theorem dX10_has_3 : decode cX10_has 3 = .ok (.lconst 1, 1) := by decide +kernel
theorem dX10_has_4 : decode cX10_has 4 = .ok (.land, 1) := by decide +kernel
theorem dX10_has_5 : decode cX10_has 5 = .ok (.lconst 1, 1) := by decide +kernel
theorem dX10_has_6 : decode cX10_has 6 = .ok (.lcmp, 1) := by decide +kernel
theorem dX10_has_7 : decode cX10_has 7 = .ok (.ifCond .ne 7, 3) := by decide +kernel
theorem dX10_has_10 : decode cX10_has 10 = .ok (.iconst 1, 1) := by decide +kernel
theorem dX10_has_11 : decode cX10_has 11 = .ok (.goto 4, 3) := by decide +kernel
theorem dX10_has_14 : decode cX10_has 14 = .ok (.iconst 0, 1) := by decide +kernel
theorem dX10_has_15 : decode cX10_has 15 = .ok (.ireturn, 1) := by decide +kernel
theorem dX10_of_0 : decode cX10_of 0 = .ok (.aload_n 0, 1) := by decide +kernel
theorem dX10_of_1 : decode cX10_of 1 = .ok (.getfield 7, 3) := by decide +kernel
theorem dX10_of_4 : decode cX10_of 4 = .ok (.iload_n 1, 1) := by decide +kernel
theorem dX10_of_5 : decode cX10_of 5 = .ok (.laload, 1) := by decide +kernel
theorem dX10_of_6 : decode cX10_of 6 = .ok (.lreturn, 1) := by decide +kernel
theorem dX10_at_0 : decode cX10_at 0 = .ok (.aload_n 0, 1) := by decide +kernel
theorem dX10_at_1 : decode cX10_at 1 = .ok (.getfield 7, 3) := by decide +kernel
theorem dX10_at_4 : decode cX10_at 4 = .ok (.iload_n 1, 1) := by decide +kernel
theorem dX10_at_5 : decode cX10_at 5 = .ok (.laload, 1) := by decide +kernel
theorem dX10_at_6 : decode cX10_at 6 = .ok (.l2i, 1) := by decide +kernel
theorem dX10_at_7 : decode cX10_at 7 = .ok (.ireturn, 1) := by decide +kernel
theorem dX10_puts_0 : decode cX10_puts 0 = .ok (.aload_n 0, 1) := by decide +kernel
theorem dX10_puts_1 : decode cX10_puts 1 = .ok (.getfield 7, 3) := by decide +kernel
theorem dX10_puts_4 : decode cX10_puts 4 = .ok (.iload_n 1, 1) := by decide +kernel
theorem dX10_puts_5 : decode cX10_puts 5 = .ok (.lload_n 2, 1) := by decide +kernel
theorem dX10_puts_6 : decode cX10_puts 6 = .ok (.lastore, 1) := by decide +kernel
theorem dX10_puts_7 : decode cX10_puts 7 = .ok (.return_, 1) := by decide +kernel
theorem dX10_adds_0 : decode cX10_adds 0 = .ok (.aload_n 0, 1) := by decide +kernel
theorem dX10_adds_1 : decode cX10_adds 1 = .ok (.getfield 7, 3) := by decide +kernel
theorem dX10_adds_4 : decode cX10_adds 4 = .ok (.iload_n 1, 1) := by decide +kernel
theorem dX10_adds_5 : decode cX10_adds 5 = .ok (.dup2, 1) := by decide +kernel
theorem dX10_adds_6 : decode cX10_adds 6 = .ok (.laload, 1) := by decide +kernel
theorem dX10_adds_7 : decode cX10_adds 7 = .ok (.lload_n 2, 1) := by decide +kernel
theorem dX10_adds_8 : decode cX10_adds 8 = .ok (.ladd, 1) := by decide +kernel
theorem dX10_adds_9 : decode cX10_adds 9 = .ok (.lastore, 1) := by decide +kernel
theorem dX10_adds_10 : decode cX10_adds 10 = .ok (.return_, 1) := by decide +kernel
theorem dX10_copies_0 : decode cX10_copies 0 = .ok (.iconst 0, 1) := by decide +kernel
theorem dX10_copies_1 : decode cX10_copies 1 = .ok (.istore_n 3, 1) := by decide +kernel
theorem dX10_copies_2 : decode cX10_copies 2 = .ok (.iload_n 3, 1) := by decide +kernel
theorem dX10_copies_3 : decode cX10_copies 3 = .ok (.sipush 5804, 3) := by decide +kernel
theorem dX10_copies_6 : decode cX10_copies 6 = .ok (.if_icmp .ge 25, 3) := by decide +kernel
theorem dX10_copies_9 : decode cX10_copies 9 = .ok (.aload_n 0, 1) := by decide +kernel
theorem dX10_copies_10 : decode cX10_copies 10 = .ok (.getfield 7, 3) := by decide +kernel
theorem dX10_copies_13 : decode cX10_copies 13 = .ok (.iload_n 2, 1) := by decide +kernel
theorem dX10_copies_14 : decode cX10_copies 14 = .ok (.iload_n 3, 1) := by decide +kernel
theorem dX10_copies_15 : decode cX10_copies 15 = .ok (.iadd, 1) := by decide +kernel
theorem dX10_copies_16 : decode cX10_copies 16 = .ok (.aload_n 0, 1) := by decide +kernel
theorem dX10_copies_17 : decode cX10_copies 17 = .ok (.getfield 7, 3) := by decide +kernel
theorem dX10_copies_20 : decode cX10_copies 20 = .ok (.iload_n 1, 1) := by decide +kernel
theorem dX10_copies_21 : decode cX10_copies 21 = .ok (.iload_n 3, 1) := by decide +kernel
theorem dX10_copies_22 : decode cX10_copies 22 = .ok (.iadd, 1) := by decide +kernel
theorem dX10_copies_23 : decode cX10_copies 23 = .ok (.laload, 1) := by decide +kernel
theorem dX10_copies_24 : decode cX10_copies 24 = .ok (.lastore, 1) := by decide +kernel
theorem dX10_copies_25 : decode cX10_copies 25 = .ok (.iinc 3 1, 3) := by decide +kernel
theorem dX10_copies_28 : decode cX10_copies 28 = .ok (.goto (-26), 3) := by decide +kernel
theorem dX10_copies_31 : decode cX10_copies 31 = .ok (.return_, 1) := by decide +kernel
theorem dX10_begins_0 : decode cX10_begins 0 = .ok (.iconst 0, 1) := by decide +kernel
theorem dX10_begins_1 : decode cX10_begins 1 = .ok (.istore_n 1, 1) := by decide +kernel
theorem dX10_begins_2 : decode cX10_begins 2 = .ok (.iload_n 1, 1) := by decide +kernel
theorem dX10_begins_3 : decode cX10_begins 3 = .ok (.sipush 5804, 3) := by decide +kernel
theorem dX10_begins_6 : decode cX10_begins 6 = .ok (.if_icmp .ge 15, 3) := by decide +kernel
theorem dX10_begins_9 : decode cX10_begins 9 = .ok (.aload_n 0, 1) := by decide +kernel
theorem dX10_begins_10 : decode cX10_begins 10 = .ok (.iload_n 1, 1) := by decide +kernel
theorem dX10_begins_11 : decode cX10_begins 11 = .ok (.lconst 0, 1) := by decide +kernel
theorem dX10_begins_12 : decode cX10_begins 12 = .ok (.invokevirtual 40, 3) := by decide +kernel
theorem dX10_begins_15 : decode cX10_begins 15 = .ok (.iinc 1 1, 3) := by decide +kernel
theorem dX10_begins_18 : decode cX10_begins 18 = .ok (.goto (-16), 3) := by decide +kernel
theorem dX10_begins_21 : decode cX10_begins 21 = .ok (.return_, 1) := by decide +kernel
theorem dX10_link0_0 : decode cX10_link0 0 = .ok (.bipush 8, 2) := by decide +kernel
theorem dX10_link0_2 : decode cX10_link0 2 = .ok (.bipush 40, 2) := by decide +kernel
theorem dX10_link0_4 : decode cX10_link0 4 = .ok (.iload_n 0, 1) := by decide +kernel
theorem dX10_link0_5 : decode cX10_link0 5 = .ok (.imul, 1) := by decide +kernel
theorem dX10_link0_6 : decode cX10_link0 6 = .ok (.iadd, 1) := by decide +kernel
theorem dX10_link0_7 : decode cX10_link0 7 = .ok (.iload_n 1, 1) := by decide +kernel
theorem dX10_link0_8 : decode cX10_link0 8 = .ok (.iadd, 1) := by decide +kernel
theorem dX10_link0_9 : decode cX10_link0 9 = .ok (.ireturn, 1) := by decide +kernel
theorem dX10_flow0_0 : decode cX10_flow0 0 = .ok (.sipush 248, 3) := by decide +kernel
theorem dX10_flow0_3 : decode cX10_flow0 3 = .ok (.bipush 20, 2) := by decide +kernel
theorem dX10_flow0_5 : decode cX10_flow0 5 = .ok (.iload_n 0, 1) := by decide +kernel
theorem dX10_flow0_6 : decode cX10_flow0 6 = .ok (.imul, 1) := by decide +kernel
theorem dX10_flow0_7 : decode cX10_flow0 7 = .ok (.iadd, 1) := by decide +kernel
theorem dX10_flow0_8 : decode cX10_flow0 8 = .ok (.iload_n 1, 1) := by decide +kernel
theorem dX10_flow0_9 : decode cX10_flow0 9 = .ok (.iadd, 1) := by decide +kernel
theorem dX10_flow0_10 : decode cX10_flow0 10 = .ok (.ireturn, 1) := by decide +kernel
theorem dX10_packet0_0 : decode cX10_packet0 0 = .ok (.sipush 368, 3) := by decide +kernel
theorem dX10_packet0_3 : decode cX10_packet0 3 = .ok (.bipush 8, 2) := by decide +kernel
theorem dX10_packet0_5 : decode cX10_packet0 5 = .ok (.iload_n 0, 1) := by decide +kernel
theorem dX10_packet0_6 : decode cX10_packet0 6 = .ok (.imul, 1) := by decide +kernel
theorem dX10_packet0_7 : decode cX10_packet0 7 = .ok (.iadd, 1) := by decide +kernel
theorem dX10_packet0_8 : decode cX10_packet0 8 = .ok (.iload_n 1, 1) := by decide +kernel
theorem dX10_packet0_9 : decode cX10_packet0 9 = .ok (.iadd, 1) := by decide +kernel
theorem dX10_packet0_10 : decode cX10_packet0 10 = .ok (.ireturn, 1) := by decide +kernel
theorem dX10_ofLink_0 : decode cX10_ofLink 0 = .ok (.aload_n 0, 1) := by decide +kernel
theorem dX10_ofLink_1 : decode cX10_ofLink 1 = .ok (.iload_n 1, 1) := by decide +kernel
theorem dX10_ofLink_2 : decode cX10_ofLink 2 = .ok (.iload_n 2, 1) := by decide +kernel
theorem dX10_ofLink_3 : decode cX10_ofLink 3 = .ok (.invokestatic 44, 3) := by decide +kernel
theorem dX10_ofLink_6 : decode cX10_ofLink 6 = .ok (.invokevirtual 48, 3) := by decide +kernel
theorem dX10_ofLink_9 : decode cX10_ofLink 9 = .ok (.lreturn, 1) := by decide +kernel
theorem dX10_ofFlow_0 : decode cX10_ofFlow 0 = .ok (.aload_n 0, 1) := by decide +kernel
theorem dX10_ofFlow_1 : decode cX10_ofFlow 1 = .ok (.iload_n 1, 1) := by decide +kernel
theorem dX10_ofFlow_2 : decode cX10_ofFlow 2 = .ok (.iload_n 2, 1) := by decide +kernel
theorem dX10_ofFlow_3 : decode cX10_ofFlow 3 = .ok (.invokestatic 52, 3) := by decide +kernel
theorem dX10_ofFlow_6 : decode cX10_ofFlow 6 = .ok (.invokevirtual 48, 3) := by decide +kernel
theorem dX10_ofFlow_9 : decode cX10_ofFlow 9 = .ok (.lreturn, 1) := by decide +kernel
theorem dX10_flowOf_0 : decode cX10_flowOf 0 = .ok (.aload_n 0, 1) := by decide +kernel
theorem dX10_flowOf_1 : decode cX10_flowOf 1 = .ok (.iload_n 1, 1) := by decide +kernel
theorem dX10_flowOf_2 : decode cX10_flowOf 2 = .ok (.iconst 0, 1) := by decide +kernel
theorem dX10_flowOf_3 : decode cX10_flowOf 3 = .ok (.invokestatic 55, 3) := by decide +kernel
theorem dX10_flowOf_6 : decode cX10_flowOf 6 = .ok (.invokevirtual 58, 3) := by decide +kernel
theorem dX10_flowOf_9 : decode cX10_flowOf 9 = .ok (.iconst 1, 1) := by decide +kernel
theorem dX10_flowOf_10 : decode cX10_flowOf 10 = .ok (.isub, 1) := by decide +kernel
theorem dX10_flowOf_11 : decode cX10_flowOf 11 = .ok (.ireturn, 1) := by decide +kernel
theorem dX10_isLink_0 : decode cX10_isLink 0 = .ok (.iload_n 1, 1) := by decide +kernel
theorem dX10_isLink_1 : decode cX10_isLink 1 = .ok (.ifCond .lt 18, 3) := by decide +kernel
theorem dX10_isLink_4 : decode cX10_isLink 4 = .ok (.iload_n 1, 1) := by decide +kernel
theorem dX10_isLink_5 : decode cX10_isLink 5 = .ok (.i2l, 1) := by decide +kernel
theorem dX10_isLink_6 : decode cX10_isLink 6 = .ok (.aload_n 0, 1) := by decide +kernel
theorem dX10_isLink_7 : decode cX10_isLink 7 = .ok (.iconst 0, 1) := by decide +kernel
theorem dX10_isLink_8 : decode cX10_isLink 8 = .ok (.invokevirtual 48, 3) := by decide +kernel
theorem dX10_isLink_11 : decode cX10_isLink 11 = .ok (.lcmp, 1) := by decide +kernel
theorem dX10_isLink_12 : decode cX10_isLink 12 = .ok (.ifCond .ge 7, 3) := by decide +kernel
theorem dX10_isLink_15 : decode cX10_isLink 15 = .ok (.iconst 1, 1) := by decide +kernel
theorem dX10_isLink_16 : decode cX10_isLink 16 = .ok (.goto 4, 3) := by decide +kernel
theorem dX10_isLink_19 : decode cX10_isLink 19 = .ok (.iconst 0, 1) := by decide +kernel
theorem dX10_isLink_20 : decode cX10_isLink 20 = .ok (.ireturn, 1) := by decide +kernel
theorem dX10_isFlow_0 : decode cX10_isFlow 0 = .ok (.iload_n 1, 1) := by decide +kernel
theorem dX10_isFlow_1 : decode cX10_isFlow 1 = .ok (.ifCond .lt 18, 3) := by decide +kernel
theorem dX10_isFlow_4 : decode cX10_isFlow 4 = .ok (.iload_n 1, 1) := by decide +kernel
theorem dX10_isFlow_5 : decode cX10_isFlow 5 = .ok (.i2l, 1) := by decide +kernel
theorem dX10_isFlow_6 : decode cX10_isFlow 6 = .ok (.aload_n 0, 1) := by decide +kernel
theorem dX10_isFlow_7 : decode cX10_isFlow 7 = .ok (.iconst 1, 1) := by decide +kernel
theorem dX10_isFlow_8 : decode cX10_isFlow 8 = .ok (.invokevirtual 48, 3) := by decide +kernel
theorem dX10_isFlow_11 : decode cX10_isFlow 11 = .ok (.lcmp, 1) := by decide +kernel
theorem dX10_isFlow_12 : decode cX10_isFlow 12 = .ok (.ifCond .ge 7, 3) := by decide +kernel
theorem dX10_isFlow_15 : decode cX10_isFlow 15 = .ok (.iconst 1, 1) := by decide +kernel
theorem dX10_isFlow_16 : decode cX10_isFlow 16 = .ok (.goto 4, 3) := by decide +kernel
theorem dX10_isFlow_19 : decode cX10_isFlow 19 = .ok (.iconst 0, 1) := by decide +kernel
theorem dX10_isFlow_20 : decode cX10_isFlow 20 = .ok (.ireturn, 1) := by decide +kernel
theorem dX10_hop_0 : decode cX10_hop 0 = .ok (.aload_n 0, 1) := by decide +kernel
theorem dX10_hop_1 : decode cX10_hop 1 = .ok (.iload_n 1, 1) := by decide +kernel
theorem dX10_hop_2 : decode cX10_hop 2 = .ok (.bipush 12, 2) := by decide +kernel
theorem dX10_hop_4 : decode cX10_hop 4 = .ok (.iload_n 2, 1) := by decide +kernel
theorem dX10_hop_5 : decode cX10_hop 5 = .ok (.iadd, 1) := by decide +kernel
theorem dX10_hop_6 : decode cX10_hop 6 = .ok (.invokestatic 52, 3) := by decide +kernel
theorem dX10_hop_9 : decode cX10_hop 9 = .ok (.invokevirtual 58, 3) := by decide +kernel
theorem dX10_hop_12 : decode cX10_hop 12 = .ok (.ireturn, 1) := by decide +kernel
theorem dX10_backOf_0 : decode cX10_backOf 0 = .ok (.iconst 0, 1) := by decide +kernel
theorem dX10_backOf_1 : decode cX10_backOf 1 = .ok (.istore_n 2, 1) := by decide +kernel
theorem dX10_backOf_2 : decode cX10_backOf 2 = .ok (.iconst 0, 1) := by decide +kernel
theorem dX10_backOf_3 : decode cX10_backOf 3 = .ok (.istore_n 3, 1) := by decide +kernel
theorem dX10_backOf_4 : decode cX10_backOf 4 = .ok (.iload_n 3, 1) := by decide +kernel
theorem dX10_backOf_5 : decode cX10_backOf 5 = .ok (.i2l, 1) := by decide +kernel
theorem dX10_backOf_6 : decode cX10_backOf 6 = .ok (.aload_n 0, 1) := by decide +kernel
theorem dX10_backOf_7 : decode cX10_backOf 7 = .ok (.iload_n 1, 1) := by decide +kernel
theorem dX10_backOf_8 : decode cX10_backOf 8 = .ok (.iconst 0, 1) := by decide +kernel
theorem dX10_backOf_9 : decode cX10_backOf 9 = .ok (.invokevirtual 62, 3) := by decide +kernel
theorem dX10_backOf_12 : decode cX10_backOf 12 = .ok (.lcmp, 1) := by decide +kernel
theorem dX10_backOf_13 : decode cX10_backOf 13 = .ok (.ifCond .ge 24, 3) := by decide +kernel
theorem dX10_backOf_16 : decode cX10_backOf 16 = .ok (.iload_n 2, 1) := by decide +kernel
theorem dX10_backOf_17 : decode cX10_backOf 17 = .ok (.aload_n 0, 1) := by decide +kernel
theorem dX10_backOf_18 : decode cX10_backOf 18 = .ok (.aload_n 0, 1) := by decide +kernel
theorem dX10_backOf_19 : decode cX10_backOf 19 = .ok (.iload_n 1, 1) := by decide +kernel
theorem dX10_backOf_20 : decode cX10_backOf 20 = .ok (.iload_n 3, 1) := by decide +kernel
theorem dX10_backOf_21 : decode cX10_backOf 21 = .ok (.invokevirtual 66, 3) := by decide +kernel
theorem dX10_backOf_24 : decode cX10_backOf 24 = .ok (.iconst 1, 1) := by decide +kernel
theorem dX10_backOf_25 : decode cX10_backOf 25 = .ok (.invokevirtual 69, 3) := by decide +kernel
theorem dX10_backOf_28 : decode cX10_backOf 28 = .ok (.l2i, 1) := by decide +kernel
theorem dX10_backOf_29 : decode cX10_backOf 29 = .ok (.iadd, 1) := by decide +kernel
theorem dX10_backOf_30 : decode cX10_backOf 30 = .ok (.istore_n 2, 1) := by decide +kernel
theorem dX10_backOf_31 : decode cX10_backOf 31 = .ok (.iinc 3 1, 3) := by decide +kernel
theorem dX10_backOf_34 : decode cX10_backOf 34 = .ok (.goto (-30), 3) := by decide +kernel
theorem dX10_backOf_37 : decode cX10_backOf 37 = .ok (.iload_n 2, 1) := by decide +kernel
theorem dX10_backOf_38 : decode cX10_backOf 38 = .ok (.ireturn, 1) := by decide +kernel
theorem dX10_isOn_0 : decode cX10_isOn 0 = .ok (.aload_n 0, 1) := by decide +kernel
theorem dX10_isOn_1 : decode cX10_isOn 1 = .ok (.iload_n 1, 1) := by decide +kernel
theorem dX10_isOn_2 : decode cX10_isOn 2 = .ok (.iconst 3, 1) := by decide +kernel
theorem dX10_isOn_3 : decode cX10_isOn 3 = .ok (.invokevirtual 62, 3) := by decide +kernel
theorem dX10_isOn_6 : decode cX10_isOn 6 = .ok (.lconst 1, 1) := by decide +kernel
theorem dX10_isOn_7 : decode cX10_isOn 7 = .ok (.lcmp, 1) := by decide +kernel
theorem dX10_isOn_8 : decode cX10_isOn 8 = .ok (.ifCond .ne 7, 3) := by decide +kernel
theorem dX10_isOn_11 : decode cX10_isOn 11 = .ok (.iconst 1, 1) := by decide +kernel
theorem dX10_isOn_12 : decode cX10_isOn 12 = .ok (.goto 4, 3) := by decide +kernel
theorem dX10_isOn_15 : decode cX10_isOn 15 = .ok (.iconst 0, 1) := by decide +kernel
theorem dX10_isOn_16 : decode cX10_isOn 16 = .ok (.ireturn, 1) := by decide +kernel
theorem dX10_happens_0 : decode cX10_happens 0 = .ok (.aload_n 0, 1) := by decide +kernel
theorem dX10_happens_1 : decode cX10_happens 1 = .ok (.iconst 3, 1) := by decide +kernel
theorem dX10_happens_2 : decode cX10_happens 2 = .ok (.invokevirtual 48, 3) := by decide +kernel
theorem dX10_happens_5 : decode cX10_happens 5 = .ok (.ldc2_w 72, 3) := by decide +kernel
theorem dX10_happens_8 : decode cX10_happens 8 = .ok (.lcmp, 1) := by decide +kernel
theorem dX10_happens_9 : decode cX10_happens 9 = .ok (.ifCond .ne 44, 3) := by decide +kernel
theorem dX10_happens_12 : decode cX10_happens 12 = .ok (.sipush 5588, 3) := by decide +kernel
theorem dX10_happens_15 : decode cX10_happens 15 = .ok (.istore 4, 2) := by decide +kernel
theorem dX10_happens_17 : decode cX10_happens 17 = .ok (.iload 4, 2) := by decide +kernel
theorem dX10_happens_19 : decode cX10_happens 19 = .ok (.sipush 5680, 3) := by decide +kernel
theorem dX10_happens_22 : decode cX10_happens 22 = .ok (.if_icmp .ge 23, 3) := by decide +kernel
theorem dX10_happens_25 : decode cX10_happens 25 = .ok (.aload_n 0, 1) := by decide +kernel
theorem dX10_happens_26 : decode cX10_happens 26 = .ok (.iload 4, 2) := by decide +kernel
theorem dX10_happens_28 : decode cX10_happens 28 = .ok (.aload_n 0, 1) := by decide +kernel
theorem dX10_happens_29 : decode cX10_happens 29 = .ok (.iload 4, 2) := by decide +kernel
theorem dX10_happens_31 : decode cX10_happens 31 = .ok (.iconst 4, 1) := by decide +kernel
theorem dX10_happens_32 : decode cX10_happens 32 = .ok (.iadd, 1) := by decide +kernel
theorem dX10_happens_33 : decode cX10_happens 33 = .ok (.invokevirtual 48, 3) := by decide +kernel
theorem dX10_happens_36 : decode cX10_happens 36 = .ok (.invokevirtual 40, 3) := by decide +kernel
theorem dX10_happens_39 : decode cX10_happens 39 = .ok (.iinc 4 1, 3) := by decide +kernel
theorem dX10_happens_42 : decode cX10_happens 42 = .ok (.goto (-25), 3) := by decide +kernel
theorem dX10_happens_45 : decode cX10_happens 45 = .ok (.aload_n 0, 1) := by decide +kernel
theorem dX10_happens_46 : decode cX10_happens 46 = .ok (.iconst 3, 1) := by decide +kernel
theorem dX10_happens_47 : decode cX10_happens 47 = .ok (.ldc2_w 74, 3) := by decide +kernel
theorem dX10_happens_50 : decode cX10_happens 50 = .ok (.invokevirtual 76, 3) := by decide +kernel
theorem dX10_happens_53 : decode cX10_happens 53 = .ok (.sipush 5588, 3) := by decide +kernel
theorem dX10_happens_56 : decode cX10_happens 56 = .ok (.iconst 4, 1) := by decide +kernel
theorem dX10_happens_57 : decode cX10_happens 57 = .ok (.aload_n 0, 1) := by decide +kernel
theorem dX10_happens_58 : decode cX10_happens 58 = .ok (.iconst 3, 1) := by decide +kernel
theorem dX10_happens_59 : decode cX10_happens 59 = .ok (.invokevirtual 58, 3) := by decide +kernel
theorem dX10_happens_62 : decode cX10_happens 62 = .ok (.imul, 1) := by decide +kernel
theorem dX10_happens_63 : decode cX10_happens 63 = .ok (.iadd, 1) := by decide +kernel
theorem dX10_happens_64 : decode cX10_happens 64 = .ok (.istore 4, 2) := by decide +kernel
theorem dX10_happens_66 : decode cX10_happens 66 = .ok (.aload_n 0, 1) := by decide +kernel
theorem dX10_happens_67 : decode cX10_happens 67 = .ok (.iload 4, 2) := by decide +kernel
theorem dX10_happens_69 : decode cX10_happens 69 = .ok (.iload_n 1, 1) := by decide +kernel
theorem dX10_happens_70 : decode cX10_happens 70 = .ok (.i2l, 1) := by decide +kernel
theorem dX10_happens_71 : decode cX10_happens 71 = .ok (.invokevirtual 40, 3) := by decide +kernel
theorem dX10_happens_74 : decode cX10_happens 74 = .ok (.aload_n 0, 1) := by decide +kernel
theorem dX10_happens_75 : decode cX10_happens 75 = .ok (.iload 4, 2) := by decide +kernel
theorem dX10_happens_77 : decode cX10_happens 77 = .ok (.iconst 1, 1) := by decide +kernel
theorem dX10_happens_78 : decode cX10_happens 78 = .ok (.iadd, 1) := by decide +kernel
theorem dX10_happens_79 : decode cX10_happens 79 = .ok (.aload_n 0, 1) := by decide +kernel
theorem dX10_happens_80 : decode cX10_happens 80 = .ok (.iconst 2, 1) := by decide +kernel
theorem dX10_happens_81 : decode cX10_happens 81 = .ok (.invokevirtual 48, 3) := by decide +kernel
theorem dX10_happens_84 : decode cX10_happens 84 = .ok (.invokevirtual 40, 3) := by decide +kernel
theorem dX10_happens_87 : decode cX10_happens 87 = .ok (.aload_n 0, 1) := by decide +kernel
theorem dX10_happens_88 : decode cX10_happens 88 = .ok (.iload 4, 2) := by decide +kernel
theorem dX10_happens_90 : decode cX10_happens 90 = .ok (.iconst 2, 1) := by decide +kernel
theorem dX10_happens_91 : decode cX10_happens 91 = .ok (.iadd, 1) := by decide +kernel
theorem dX10_happens_92 : decode cX10_happens 92 = .ok (.iload_n 2, 1) := by decide +kernel
theorem dX10_happens_93 : decode cX10_happens 93 = .ok (.i2l, 1) := by decide +kernel
theorem dX10_happens_94 : decode cX10_happens 94 = .ok (.invokevirtual 40, 3) := by decide +kernel
theorem dX10_happens_97 : decode cX10_happens 97 = .ok (.aload_n 0, 1) := by decide +kernel
theorem dX10_happens_98 : decode cX10_happens 98 = .ok (.iload 4, 2) := by decide +kernel
theorem dX10_happens_100 : decode cX10_happens 100 = .ok (.iconst 3, 1) := by decide +kernel
theorem dX10_happens_101 : decode cX10_happens 101 = .ok (.iadd, 1) := by decide +kernel
theorem dX10_happens_102 : decode cX10_happens 102 = .ok (.iload_n 3, 1) := by decide +kernel
theorem dX10_happens_103 : decode cX10_happens 103 = .ok (.i2l, 1) := by decide +kernel
theorem dX10_happens_104 : decode cX10_happens 104 = .ok (.invokevirtual 40, 3) := by decide +kernel
theorem dX10_happens_107 : decode cX10_happens 107 = .ok (.aload_n 0, 1) := by decide +kernel
theorem dX10_happens_108 : decode cX10_happens 108 = .ok (.iconst 3, 1) := by decide +kernel
theorem dX10_happens_109 : decode cX10_happens 109 = .ok (.lconst 1, 1) := by decide +kernel
theorem dX10_happens_110 : decode cX10_happens 110 = .ok (.invokevirtual 76, 3) := by decide +kernel
