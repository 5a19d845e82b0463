theorem dX5_copyLine_26 : decode cX5_copyLine 26 = .ok (.invokevirtual 107, 3) := by decide +kernel
theorem dX5_copyLine_29 : decode cX5_copyLine 29 = .ok (.aload_n 2, 1) := by decide +kernel
theorem dX5_copyLine_30 : decode cX5_copyLine 30 = .ok (.aload 4, 2) := by decide +kernel
theorem dX5_copyLine_32 : decode cX5_copyLine 32 = .ok (.invokevirtual 112, 3) := by decide +kernel
theorem dX5_copyLine_35 : decode cX5_copyLine 35 = .ok (.aload_n 3, 1) := by decide +kernel
theorem dX5_copyLine_36 : decode cX5_copyLine 36 = .ok (.getfield 115, 3) := by decide +kernel
theorem dX5_copyLine_39 : decode cX5_copyLine 39 = .ok (.astore_n 3, 1) := by decide +kernel
theorem dX5_copyLine_40 : decode cX5_copyLine 40 = .ok (.goto (-35), 3) := by decide +kernel
theorem dX5_copyLine_43 : decode cX5_copyLine 43 = .ok (.return_, 1) := by decide +kernel
theorem dX5_freshPacket_0 : decode cX5_freshPacket 0 = .ok (.aload_n 0, 1) := by decide +kernel
theorem dX5_freshPacket_1 : decode cX5_freshPacket 1 = .ok (.getfield 30, 3) := by decide +kernel
theorem dX5_freshPacket_4 : decode cX5_freshPacket 4 = .ok (.invokevirtual 118, 3) := by decide +kernel
theorem dX5_freshPacket_7 : decode cX5_freshPacket 7 = .ok (.astore_n 1, 1) := by decide +kernel
theorem dX5_freshPacket_8 : decode cX5_freshPacket 8 = .ok (.aload_n 1, 1) := by decide +kernel
theorem dX5_freshPacket_9 : decode cX5_freshPacket 9 = .ok (.ifnonnull 31, 3) := by decide +kernel
theorem dX5_freshPacket_12 : decode cX5_freshPacket 12 = .ok (.aload_n 0, 1) := by decide +kernel
theorem dX5_freshPacket_13 : decode cX5_freshPacket 13 = .ok (.getfield 121, 3) := by decide +kernel
theorem dX5_freshPacket_16 : decode cX5_freshPacket 16 = .ok (.sipush 480, 3) := by decide +kernel
theorem dX5_freshPacket_19 : decode cX5_freshPacket 19 = .ok (.if_icmp .ge 21, 3) := by decide +kernel
theorem dX5_freshPacket_22 : decode cX5_freshPacket 22 = .ok (.aload_n 0, 1) := by decide +kernel
theorem dX5_freshPacket_23 : decode cX5_freshPacket 23 = .ok (.dup, 1) := by decide +kernel
theorem dX5_freshPacket_24 : decode cX5_freshPacket 24 = .ok (.getfield 121, 3) := by decide +kernel
theorem dX5_freshPacket_27 : decode cX5_freshPacket 27 = .ok (.iconst 1, 1) := by decide +kernel
theorem dX5_freshPacket_28 : decode cX5_freshPacket 28 = .ok (.iadd, 1) := by decide +kernel
theorem dX5_freshPacket_29 : decode cX5_freshPacket 29 = .ok (.putfield 121, 3) := by decide +kernel
theorem dX5_freshPacket_32 : decode cX5_freshPacket 32 = .ok (.new 108, 3) := by decide +kernel
theorem dX5_freshPacket_35 : decode cX5_freshPacket 35 = .ok (.dup, 1) := by decide +kernel
theorem dX5_freshPacket_36 : decode cX5_freshPacket 36 = .ok (.invokespecial 124, 3) := by decide +kernel
theorem dX5_freshPacket_39 : decode cX5_freshPacket 39 = .ok (.astore_n 1, 1) := by decide +kernel
theorem dX5_freshPacket_40 : decode cX5_freshPacket 40 = .ok (.aload_n 1, 1) := by decide +kernel
theorem dX5_freshPacket_41 : decode cX5_freshPacket 41 = .ok (.areturn, 1) := by decide +kernel
theorem dX5_linkAt_0 : decode cX5_linkAt 0 = .ok (.iload_n 1, 1) := by decide +kernel
theorem dX5_linkAt_1 : decode cX5_linkAt 1 = .ok (.ifCond .lt 29, 3) := by decide +kernel
theorem dX5_linkAt_4 : decode cX5_linkAt 4 = .ok (.iload_n 1, 1) := by decide +kernel
theorem dX5_linkAt_5 : decode cX5_linkAt 5 = .ok (.aload_n 0, 1) := by decide +kernel
theorem dX5_linkAt_6 : decode cX5_linkAt 6 = .ok (.getfield 49, 3) := by decide +kernel
theorem dX5_linkAt_9 : decode cX5_linkAt 9 = .ok (.if_icmp .ge 21, 3) := by decide +kernel
theorem dX5_linkAt_12 : decode cX5_linkAt 12 = .ok (.iload_n 1, 1) := by decide +kernel
theorem dX5_linkAt_13 : decode cX5_linkAt 13 = .ok (.aload_n 0, 1) := by decide +kernel
theorem dX5_linkAt_14 : decode cX5_linkAt 14 = .ok (.getfield 11, 3) := by decide +kernel
theorem dX5_linkAt_17 : decode cX5_linkAt 17 = .ok (.arraylength, 1) := by decide +kernel
theorem dX5_linkAt_18 : decode cX5_linkAt 18 = .ok (.if_icmp .ge 12, 3) := by decide +kernel
theorem dX5_linkAt_21 : decode cX5_linkAt 21 = .ok (.aload_n 0, 1) := by decide +kernel
theorem dX5_linkAt_22 : decode cX5_linkAt 22 = .ok (.getfield 11, 3) := by decide +kernel
theorem dX5_linkAt_25 : decode cX5_linkAt 25 = .ok (.iload_n 1, 1) := by decide +kernel
theorem dX5_linkAt_26 : decode cX5_linkAt 26 = .ok (.aaload, 1) := by decide +kernel
theorem dX5_linkAt_27 : decode cX5_linkAt 27 = .ok (.goto 4, 3) := by decide +kernel
theorem dX5_linkAt_30 : decode cX5_linkAt 30 = .ok (.aconst_null, 1) := by decide +kernel
theorem dX5_linkAt_31 : decode cX5_linkAt 31 = .ok (.areturn, 1) := by decide +kernel
theorem dX5_flowAt_0 : decode cX5_flowAt 0 = .ok (.iload_n 1, 1) := by decide +kernel
theorem dX5_flowAt_1 : decode cX5_flowAt 1 = .ok (.ifCond .lt 29, 3) := by decide +kernel
theorem dX5_flowAt_4 : decode cX5_flowAt 4 = .ok (.iload_n 1, 1) := by decide +kernel
theorem dX5_flowAt_5 : decode cX5_flowAt 5 = .ok (.aload_n 0, 1) := by decide +kernel
theorem dX5_flowAt_6 : decode cX5_flowAt 6 = .ok (.getfield 53, 3) := by decide +kernel
theorem dX5_flowAt_9 : decode cX5_flowAt 9 = .ok (.if_icmp .ge 21, 3) := by decide +kernel
theorem dX5_flowAt_12 : decode cX5_flowAt 12 = .ok (.iload_n 1, 1) := by decide +kernel
theorem dX5_flowAt_13 : decode cX5_flowAt 13 = .ok (.aload_n 0, 1) := by decide +kernel
theorem dX5_flowAt_14 : decode cX5_flowAt 14 = .ok (.getfield 19, 3) := by decide +kernel
theorem dX5_flowAt_17 : decode cX5_flowAt 17 = .ok (.arraylength, 1) := by decide +kernel
theorem dX5_flowAt_18 : decode cX5_flowAt 18 = .ok (.if_icmp .ge 12, 3) := by decide +kernel
theorem dX5_flowAt_21 : decode cX5_flowAt 21 = .ok (.aload_n 0, 1) := by decide +kernel
theorem dX5_flowAt_22 : decode cX5_flowAt 22 = .ok (.getfield 19, 3) := by decide +kernel
theorem dX5_flowAt_25 : decode cX5_flowAt 25 = .ok (.iload_n 1, 1) := by decide +kernel
theorem dX5_flowAt_26 : decode cX5_flowAt 26 = .ok (.aaload, 1) := by decide +kernel
theorem dX5_flowAt_27 : decode cX5_flowAt 27 = .ok (.goto 4, 3) := by decide +kernel
theorem dX5_flowAt_30 : decode cX5_flowAt 30 = .ok (.aconst_null, 1) := by decide +kernel
theorem dX5_flowAt_31 : decode cX5_flowAt 31 = .ok (.areturn, 1) := by decide +kernel
theorem dX5_addLink_0 : decode cX5_addLink 0 = .ok (.aload_n 0, 1) := by decide +kernel
theorem dX5_addLink_1 : decode cX5_addLink 1 = .ok (.getfield 49, 3) := by decide +kernel
theorem dX5_addLink_4 : decode cX5_addLink 4 = .ok (.aload_n 0, 1) := by decide +kernel
theorem dX5_addLink_5 : decode cX5_addLink 5 = .ok (.getfield 11, 3) := by decide +kernel
theorem dX5_addLink_8 : decode cX5_addLink 8 = .ok (.arraylength, 1) := by decide +kernel
theorem dX5_addLink_9 : decode cX5_addLink 9 = .ok (.if_icmp .lt 5, 3) := by decide +kernel
theorem dX5_addLink_12 : decode cX5_addLink 12 = .ok (.aconst_null, 1) := by decide +kernel
theorem dX5_addLink_13 : decode cX5_addLink 13 = .ok (.areturn, 1) := by decide +kernel
theorem dX5_addLink_14 : decode cX5_addLink 14 = .ok (.aload_n 0, 1) := by decide +kernel
theorem dX5_addLink_15 : decode cX5_addLink 15 = .ok (.dup, 1) := by decide +kernel
theorem dX5_addLink_16 : decode cX5_addLink 16 = .ok (.getfield 49, 3) := by decide +kernel
theorem dX5_addLink_19 : decode cX5_addLink 19 = .ok (.iconst 1, 1) := by decide +kernel
theorem dX5_addLink_20 : decode cX5_addLink 20 = .ok (.iadd, 1) := by decide +kernel
theorem dX5_addLink_21 : decode cX5_addLink 21 = .ok (.putfield 49, 3) := by decide +kernel
theorem dX5_addLink_24 : decode cX5_addLink 24 = .ok (.aload_n 0, 1) := by decide +kernel
theorem dX5_addLink_25 : decode cX5_addLink 25 = .ok (.getfield 11, 3) := by decide +kernel
theorem dX5_addLink_28 : decode cX5_addLink 28 = .ok (.aload_n 0, 1) := by decide +kernel
theorem dX5_addLink_29 : decode cX5_addLink 29 = .ok (.getfield 49, 3) := by decide +kernel
theorem dX5_addLink_32 : decode cX5_addLink 32 = .ok (.iconst 1, 1) := by decide +kernel
theorem dX5_addLink_33 : decode cX5_addLink 33 = .ok (.isub, 1) := by decide +kernel
theorem dX5_addLink_34 : decode cX5_addLink 34 = .ok (.aaload, 1) := by decide +kernel
theorem dX5_addLink_35 : decode cX5_addLink 35 = .ok (.areturn, 1) := by decide +kernel
theorem dX5_addFlow_0 : decode cX5_addFlow 0 = .ok (.aload_n 0, 1) := by decide +kernel
theorem dX5_addFlow_1 : decode cX5_addFlow 1 = .ok (.getfield 53, 3) := by decide +kernel
theorem dX5_addFlow_4 : decode cX5_addFlow 4 = .ok (.aload_n 0, 1) := by decide +kernel
theorem dX5_addFlow_5 : decode cX5_addFlow 5 = .ok (.getfield 19, 3) := by decide +kernel
theorem dX5_addFlow_8 : decode cX5_addFlow 8 = .ok (.arraylength, 1) := by decide +kernel
theorem dX5_addFlow_9 : decode cX5_addFlow 9 = .ok (.if_icmp .lt 5, 3) := by decide +kernel
theorem dX5_addFlow_12 : decode cX5_addFlow 12 = .ok (.aconst_null, 1) := by decide +kernel
theorem dX5_addFlow_13 : decode cX5_addFlow 13 = .ok (.areturn, 1) := by decide +kernel
theorem dX5_addFlow_14 : decode cX5_addFlow 14 = .ok (.aload_n 0, 1) := by decide +kernel
theorem dX5_addFlow_15 : decode cX5_addFlow 15 = .ok (.dup, 1) := by decide +kernel
theorem dX5_addFlow_16 : decode cX5_addFlow 16 = .ok (.getfield 53, 3) := by decide +kernel
theorem dX5_addFlow_19 : decode cX5_addFlow 19 = .ok (.iconst 1, 1) := by decide +kernel
theorem dX5_addFlow_20 : decode cX5_addFlow 20 = .ok (.iadd, 1) := by decide +kernel
theorem dX5_addFlow_21 : decode cX5_addFlow 21 = .ok (.putfield 53, 3) := by decide +kernel
theorem dX5_addFlow_24 : decode cX5_addFlow 24 = .ok (.aload_n 0, 1) := by decide +kernel
theorem dX5_addFlow_25 : decode cX5_addFlow 25 = .ok (.getfield 19, 3) := by decide +kernel
theorem dX5_addFlow_28 : decode cX5_addFlow 28 = .ok (.aload_n 0, 1) := by decide +kernel
theorem dX5_addFlow_29 : decode cX5_addFlow 29 = .ok (.getfield 53, 3) := by decide +kernel
theorem dX5_addFlow_32 : decode cX5_addFlow 32 = .ok (.iconst 1, 1) := by decide +kernel
theorem dX5_addFlow_33 : decode cX5_addFlow 33 = .ok (.isub, 1) := by decide +kernel
theorem dX5_addFlow_34 : decode cX5_addFlow 34 = .ok (.aaload, 1) := by decide +kernel
theorem dX5_addFlow_35 : decode cX5_addFlow 35 = .ok (.areturn, 1) := by decide +kernel
theorem dX5_measureBack_0 : decode cX5_measureBack 0 = .ok (.iconst 0, 1) := by decide +kernel
theorem dX5_measureBack_1 : decode cX5_measureBack 1 = .ok (.istore_n 2, 1) := by decide +kernel
theorem dX5_measureBack_2 : decode cX5_measureBack 2 = .ok (.iconst 0, 1) := by decide +kernel
theorem dX5_measureBack_3 : decode cX5_measureBack 3 = .ok (.istore_n 3, 1) := by decide +kernel
theorem dX5_measureBack_4 : decode cX5_measureBack 4 = .ok (.iload_n 3, 1) := by decide +kernel
theorem dX5_measureBack_5 : decode cX5_measureBack 5 = .ok (.aload_n 1, 1) := by decide +kernel
theorem dX5_measureBack_6 : decode cX5_measureBack 6 = .ok (.getfield 125, 3) := by decide +kernel
theorem dX5_measureBack_9 : decode cX5_measureBack 9 = .ok (.if_icmp .ge 33, 3) := by decide +kernel
theorem dX5_measureBack_12 : decode cX5_measureBack 12 = .ok (.aload_n 0, 1) := by decide +kernel
theorem dX5_measureBack_13 : decode cX5_measureBack 13 = .ok (.aload_n 1, 1) := by decide +kernel
theorem dX5_measureBack_14 : decode cX5_measureBack 14 = .ok (.iload_n 3, 1) := by decide +kernel
theorem dX5_measureBack_15 : decode cX5_measureBack 15 = .ok (.invokevirtual 128, 3) := by decide +kernel
theorem dX5_measureBack_18 : decode cX5_measureBack 18 = .ok (.invokevirtual 132, 3) := by decide +kernel
theorem dX5_measureBack_21 : decode cX5_measureBack 21 = .ok (.astore 4, 2) := by decide +kernel
theorem dX5_measureBack_23 : decode cX5_measureBack 23 = .ok (.aload 4, 2) := by decide +kernel
theorem dX5_measureBack_25 : decode cX5_measureBack 25 = .ok (.ifnull 11, 3) := by decide +kernel
theorem dX5_measureBack_28 : decode cX5_measureBack 28 = .ok (.iload_n 2, 1) := by decide +kernel
theorem dX5_measureBack_29 : decode cX5_measureBack 29 = .ok (.aload 4, 2) := by decide +kernel
theorem dX5_measureBack_31 : decode cX5_measureBack 31 = .ok (.getfield 136, 3) := by decide +kernel
theorem dX5_measureBack_34 : decode cX5_measureBack 34 = .ok (.iadd, 1) := by decide +kernel
theorem dX5_measureBack_35 : decode cX5_measureBack 35 = .ok (.istore_n 2, 1) := by decide +kernel
theorem dX5_measureBack_36 : decode cX5_measureBack 36 = .ok (.iinc 3 1, 3) := by decide +kernel
theorem dX5_measureBack_39 : decode cX5_measureBack 39 = .ok (.goto (-35), 3) := by decide +kernel
theorem dX5_measureBack_42 : decode cX5_measureBack 42 = .ok (.aload_n 1, 1) := by decide +kernel
theorem dX5_measureBack_43 : decode cX5_measureBack 43 = .ok (.iload_n 2, 1) := by decide +kernel
theorem dX5_measureBack_44 : decode cX5_measureBack 44 = .ok (.putfield 139, 3) := by decide +kernel
theorem dX5_measureBack_47 : decode cX5_measureBack 47 = .ok (.return_, 1) := by decide +kernel
theorem dX5_passTicks_0 : decode cX5_passTicks 0 = .ok (.iconst 0, 1) := by decide +kernel
theorem dX5_passTicks_1 : decode cX5_passTicks 1 = .ok (.istore_n 2, 1) := by decide +kernel
theorem dX5_passTicks_2 : decode cX5_passTicks 2 = .ok (.iload_n 2, 1) := by decide +kernel
theorem dX5_passTicks_3 : decode cX5_passTicks 3 = .ok (.iload_n 1, 1) := by decide +kernel
theorem dX5_passTicks_4 : decode cX5_passTicks 4 = .ok (.if_icmp .ge 139, 3) := by decide +kernel
theorem dX5_passTicks_7 : decode cX5_passTicks 7 = .ok (.aload_n 0, 1) := by decide +kernel
theorem dX5_passTicks_8 : decode cX5_passTicks 8 = .ok (.dup, 1) := by decide +kernel
theorem dX5_passTicks_9 : decode cX5_passTicks 9 = .ok (.getfield 56, 3) := by decide +kernel
theorem dX5_passTicks_12 : decode cX5_passTicks 12 = .ok (.iconst 1, 1) := by decide +kernel
theorem dX5_passTicks_13 : decode cX5_passTicks 13 = .ok (.iadd, 1) := by decide +kernel
theorem dX5_passTicks_14 : decode cX5_passTicks 14 = .ok (.putfield 56, 3) := by decide +kernel
theorem dX5_passTicks_17 : decode cX5_passTicks 17 = .ok (.aload_n 0, 1) := by decide +kernel
theorem dX5_passTicks_18 : decode cX5_passTicks 18 = .ok (.invokevirtual 142, 3) := by decide +kernel
theorem dX5_passTicks_21 : decode cX5_passTicks 21 = .ok (.iconst 0, 1) := by decide +kernel
theorem dX5_passTicks_22 : decode cX5_passTicks 22 = .ok (.istore_n 3, 1) := by decide +kernel
theorem dX5_passTicks_23 : decode cX5_passTicks 23 = .ok (.iload_n 3, 1) := by decide +kernel
theorem dX5_passTicks_24 : decode cX5_passTicks 24 = .ok (.aload_n 0, 1) := by decide +kernel
theorem dX5_passTicks_25 : decode cX5_passTicks 25 = .ok (.getfield 49, 3) := by decide +kernel
theorem dX5_passTicks_28 : decode cX5_passTicks 28 = .ok (.if_icmp .ge 22, 3) := by decide +kernel
theorem dX5_passTicks_31 : decode cX5_passTicks 31 = .ok (.aload_n 0, 1) := by decide +kernel
theorem dX5_passTicks_32 : decode cX5_passTicks 32 = .ok (.aload_n 0, 1) := by decide +kernel
theorem dX5_passTicks_33 : decode cX5_passTicks 33 = .ok (.getfield 11, 3) := by decide +kernel
theorem dX5_passTicks_36 : decode cX5_passTicks 36 = .ok (.iload_n 3, 1) := by decide +kernel
theorem dX5_passTicks_37 : decode cX5_passTicks 37 = .ok (.aaload, 1) := by decide +kernel
theorem dX5_passTicks_38 : decode cX5_passTicks 38 = .ok (.getfield 80, 3) := by decide +kernel
theorem dX5_passTicks_41 : decode cX5_passTicks 41 = .ok (.invokevirtual 145, 3) := by decide +kernel
theorem dX5_passTicks_44 : decode cX5_passTicks 44 = .ok (.iinc 3 1, 3) := by decide +kernel
theorem dX5_passTicks_47 : decode cX5_passTicks 47 = .ok (.goto (-24), 3) := by decide +kernel
theorem dX5_passTicks_50 : decode cX5_passTicks 50 = .ok (.iconst 0, 1) := by decide +kernel
theorem dX5_passTicks_51 : decode cX5_passTicks 51 = .ok (.istore_n 3, 1) := by decide +kernel
theorem dX5_passTicks_52 : decode cX5_passTicks 52 = .ok (.iload_n 3, 1) := by decide +kernel
theorem dX5_passTicks_53 : decode cX5_passTicks 53 = .ok (.aload_n 0, 1) := by decide +kernel
theorem dX5_passTicks_54 : decode cX5_passTicks 54 = .ok (.getfield 53, 3) := by decide +kernel
theorem dX5_passTicks_57 : decode cX5_passTicks 57 = .ok (.if_icmp .ge 20, 3) := by decide +kernel
theorem dX5_passTicks_60 : decode cX5_passTicks 60 = .ok (.aload_n 0, 1) := by decide +kernel
theorem dX5_passTicks_61 : decode cX5_passTicks 61 = .ok (.iload_n 3, 1) := by decide +kernel
theorem dX5_passTicks_62 : decode cX5_passTicks 62 = .ok (.aload_n 0, 1) := by decide +kernel
theorem dX5_passTicks_63 : decode cX5_passTicks 63 = .ok (.getfield 19, 3) := by decide +kernel
theorem dX5_passTicks_66 : decode cX5_passTicks 66 = .ok (.iload_n 3, 1) := by decide +kernel
theorem dX5_passTicks_67 : decode cX5_passTicks 67 = .ok (.aaload, 1) := by decide +kernel
theorem dX5_passTicks_68 : decode cX5_passTicks 68 = .ok (.invokevirtual 148, 3) := by decide +kernel
theorem dX5_passTicks_71 : decode cX5_passTicks 71 = .ok (.iinc 3 1, 3) := by decide +kernel
theorem dX5_passTicks_74 : decode cX5_passTicks 74 = .ok (.goto (-22), 3) := by decide +kernel
theorem dX5_passTicks_77 : decode cX5_passTicks 77 = .ok (.iconst 0, 1) := by decide +kernel
theorem dX5_passTicks_78 : decode cX5_passTicks 78 = .ok (.istore_n 3, 1) := by decide +kernel
theorem dX5_passTicks_79 : decode cX5_passTicks 79 = .ok (.iload_n 3, 1) := by decide +kernel
theorem dX5_passTicks_80 : decode cX5_passTicks 80 = .ok (.aload_n 0, 1) := by decide +kernel
theorem dX5_passTicks_81 : decode cX5_passTicks 81 = .ok (.getfield 49, 3) := by decide +kernel
theorem dX5_passTicks_84 : decode cX5_passTicks 84 = .ok (.if_icmp .ge 22, 3) := by decide +kernel
theorem dX5_passTicks_87 : decode cX5_passTicks 87 = .ok (.aload_n 0, 1) := by decide +kernel
theorem dX5_passTicks_88 : decode cX5_passTicks 88 = .ok (.getfield 11, 3) := by decide +kernel
theorem dX5_passTicks_91 : decode cX5_passTicks 91 = .ok (.iload_n 3, 1) := by decide +kernel
theorem dX5_passTicks_92 : decode cX5_passTicks 92 = .ok (.aaload, 1) := by decide +kernel
theorem dX5_passTicks_93 : decode cX5_passTicks 93 = .ok (.aload_n 0, 1) := by decide +kernel
theorem dX5_passTicks_94 : decode cX5_passTicks 94 = .ok (.getfield 56, 3) := by decide +kernel
theorem dX5_passTicks_97 : decode cX5_passTicks 97 = .ok (.invokevirtual 152, 3) := by decide +kernel
theorem dX5_passTicks_100 : decode cX5_passTicks 100 = .ok (.iinc 3 1, 3) := by decide +kernel
theorem dX5_passTicks_103 : decode cX5_passTicks 103 = .ok (.goto (-24), 3) := by decide +kernel
theorem dX5_passTicks_106 : decode cX5_passTicks 106 = .ok (.iconst 0, 1) := by decide +kernel
theorem dX5_passTicks_107 : decode cX5_passTicks 107 = .ok (.istore_n 3, 1) := by decide +kernel
theorem dX5_passTicks_108 : decode cX5_passTicks 108 = .ok (.iload_n 3, 1) := by decide +kernel
theorem dX5_passTicks_109 : decode cX5_passTicks 109 = .ok (.aload_n 0, 1) := by decide +kernel
theorem dX5_passTicks_110 : decode cX5_passTicks 110 = .ok (.getfield 49, 3) := by decide +kernel
theorem dX5_passTicks_113 : decode cX5_passTicks 113 = .ok (.if_icmp .ge 20, 3) := by decide +kernel
theorem dX5_passTicks_116 : decode cX5_passTicks 116 = .ok (.aload_n 0, 1) := by decide +kernel
theorem dX5_passTicks_117 : decode cX5_passTicks 117 = .ok (.iload_n 3, 1) := by decide +kernel
theorem dX5_passTicks_118 : decode cX5_passTicks 118 = .ok (.aload_n 0, 1) := by decide +kernel
theorem dX5_passTicks_119 : decode cX5_passTicks 119 = .ok (.getfield 11, 3) := by decide +kernel
theorem dX5_passTicks_122 : decode cX5_passTicks 122 = .ok (.iload_n 3, 1) := by decide +kernel
theorem dX5_passTicks_123 : decode cX5_passTicks 123 = .ok (.aaload, 1) := by decide +kernel
theorem dX5_passTicks_124 : decode cX5_passTicks 124 = .ok (.invokevirtual 156, 3) := by decide +kernel
theorem dX5_passTicks_127 : decode cX5_passTicks 127 = .ok (.iinc 3 1, 3) := by decide +kernel
theorem dX5_passTicks_130 : decode cX5_passTicks 130 = .ok (.goto (-22), 3) := by decide +kernel
theorem dX5_passTicks_133 : decode cX5_passTicks 133 = .ok (.aload_n 0, 1) := by decide +kernel
theorem dX5_passTicks_134 : decode cX5_passTicks 134 = .ok (.invokevirtual 160, 3) := by decide +kernel
theorem dX5_passTicks_137 : decode cX5_passTicks 137 = .ok (.iinc 2 1, 3) := by decide +kernel
theorem dX5_passTicks_140 : decode cX5_passTicks 140 = .ok (.goto (-138), 3) := by decide +kernel
theorem dX5_passTicks_143 : decode cX5_passTicks 143 = .ok (.return_, 1) := by decide +kernel
theorem dX5_takeReturns_0 : decode cX5_takeReturns 0 = .ok (.aload_n 0, 1) := by decide +kernel
theorem dX5_takeReturns_1 : decode cX5_takeReturns 1 = .ok (.getfield 26, 3) := by decide +kernel
theorem dX5_takeReturns_4 : decode cX5_takeReturns 4 = .ok (.getfield 163, 3) := by decide +kernel
theorem dX5_takeReturns_7 : decode cX5_takeReturns 7 = .ok (.istore_n 1, 1) := by decide +kernel
theorem dX5_takeReturns_8 : decode cX5_takeReturns 8 = .ok (.iload_n 1, 1) := by decide +kernel
theorem dX5_takeReturns_9 : decode cX5_takeReturns 9 = .ok (.ifCond .le 51, 3) := by decide +kernel
theorem dX5_takeReturns_12 : decode cX5_takeReturns 12 = .ok (.aload_n 0, 1) := by decide +kernel
theorem dX5_takeReturns_13 : decode cX5_takeReturns 13 = .ok (.getfield 26, 3) := by decide +kernel
theorem dX5_takeReturns_16 : decode cX5_takeReturns 16 = .ok (.invokevirtual 118, 3) := by decide +kernel
theorem dX5_takeReturns_19 : decode cX5_takeReturns 19 = .ok (.astore_n 2, 1) := by decide +kernel
theorem dX5_takeReturns_20 : decode cX5_takeReturns 20 = .ok (.aload_n 2, 1) := by decide +kernel
theorem dX5_takeReturns_21 : decode cX5_takeReturns 21 = .ok (.ifnonnull 6, 3) := by decide +kernel
theorem dX5_takeReturns_24 : decode cX5_takeReturns 24 = .ok (.goto 36, 3) := by decide +kernel
theorem dX5_takeReturns_27 : decode cX5_takeReturns 27 = .ok (.aload_n 2, 1) := by decide +kernel
theorem dX5_takeReturns_28 : decode cX5_takeReturns 28 = .ok (.getfield 166, 3) := by decide +kernel
theorem dX5_takeReturns_31 : decode cX5_takeReturns 31 = .ok (.aload_n 0, 1) := by decide +kernel
theorem dX5_takeReturns_32 : decode cX5_takeReturns 32 = .ok (.getfield 56, 3) := by decide +kernel
theorem dX5_takeReturns_35 : decode cX5_takeReturns 35 = .ok (.if_icmp .ne 11, 3) := by decide +kernel
theorem dX5_takeReturns_38 : decode cX5_takeReturns 38 = .ok (.aload_n 0, 1) := by decide +kernel
theorem dX5_takeReturns_39 : decode cX5_takeReturns 39 = .ok (.aload_n 2, 1) := by decide +kernel
theorem dX5_takeReturns_40 : decode cX5_takeReturns 40 = .ok (.invokevirtual 169, 3) := by decide +kernel
theorem dX5_takeReturns_43 : decode cX5_takeReturns 43 = .ok (.goto 11, 3) := by decide +kernel
theorem dX5_takeReturns_46 : decode cX5_takeReturns 46 = .ok (.aload_n 0, 1) := by decide +kernel
theorem dX5_takeReturns_47 : decode cX5_takeReturns 47 = .ok (.getfield 26, 3) := by decide +kernel
theorem dX5_takeReturns_50 : decode cX5_takeReturns 50 = .ok (.aload_n 2, 1) := by decide +kernel
theorem dX5_takeReturns_51 : decode cX5_takeReturns 51 = .ok (.invokevirtual 112, 3) := by decide +kernel
theorem dX5_takeReturns_54 : decode cX5_takeReturns 54 = .ok (.iinc 1 (-1), 3) := by decide +kernel
theorem dX5_takeReturns_57 : decode cX5_takeReturns 57 = .ok (.goto (-49), 3) := by decide +kernel
theorem dX5_takeReturns_60 : decode cX5_takeReturns 60 = .ok (.return_, 1) := by decide +kernel
theorem dX5_takeReturn_0 : decode cX5_takeReturn 0 = .ok (.aload_n 0, 1) := by decide +kernel
theorem dX5_takeReturn_1 : decode cX5_takeReturn 1 = .ok (.aload_n 1, 1) := by decide +kernel
theorem dX5_takeReturn_2 : decode cX5_takeReturn 2 = .ok (.getfield 172, 3) := by decide +kernel
theorem dX5_takeReturn_5 : decode cX5_takeReturn 5 = .ok (.invokevirtual 175, 3) := by decide +kernel
theorem dX5_takeReturn_8 : decode cX5_takeReturn 8 = .ok (.astore_n 2, 1) := by decide +kernel
theorem dX5_takeReturn_9 : decode cX5_takeReturn 9 = .ok (.aload_n 2, 1) := by decide +kernel
theorem dX5_takeReturn_10 : decode cX5_takeReturn 10 = .ok (.ifnull 40, 3) := by decide +kernel
theorem dX5_takeReturn_13 : decode cX5_takeReturn 13 = .ok (.aload_n 2, 1) := by decide +kernel
theorem dX5_takeReturn_14 : decode cX5_takeReturn 14 = .ok (.aload_n 1, 1) := by decide +kernel
theorem dX5_takeReturn_15 : decode cX5_takeReturn 15 = .ok (.aload_n 0, 1) := by decide +kernel
theorem dX5_takeReturn_16 : decode cX5_takeReturn 16 = .ok (.getfield 56, 3) := by decide +kernel
theorem dX5_takeReturn_19 : decode cX5_takeReturn 19 = .ok (.aload_n 0, 1) := by decide +kernel
theorem dX5_takeReturn_20 : decode cX5_takeReturn 20 = .ok (.getfield 65, 3) := by decide +kernel
theorem dX5_takeReturn_23 : decode cX5_takeReturn 23 = .ok (.invokevirtual 179, 3) := by decide +kernel
theorem dX5_takeReturn_26 : decode cX5_takeReturn 26 = .ok (.aload_n 2, 1) := by decide +kernel
theorem dX5_takeReturn_27 : decode cX5_takeReturn 27 = .ok (.invokevirtual 183, 3) := by decide +kernel
theorem dX5_takeReturn_30 : decode cX5_takeReturn 30 = .ok (.ifCond .eq 20, 3) := by decide +kernel
theorem dX5_takeReturn_33 : decode cX5_takeReturn 33 = .ok (.aload_n 0, 1) := by decide +kernel
theorem dX5_takeReturn_34 : decode cX5_takeReturn 34 = .ok (.getfield 36, 3) := by decide +kernel
theorem dX5_takeReturn_37 : decode cX5_takeReturn 37 = .ok (.iconst 4, 1) := by decide +kernel
theorem dX5_takeReturn_38 : decode cX5_takeReturn 38 = .ok (.aload_n 0, 1) := by decide +kernel
theorem dX5_takeReturn_39 : decode cX5_takeReturn 39 = .ok (.getfield 56, 3) := by decide +kernel
theorem dX5_takeReturn_42 : decode cX5_takeReturn 42 = .ok (.iconst (-1), 1) := by decide +kernel
theorem dX5_takeReturn_43 : decode cX5_takeReturn 43 = .ok (.aload_n 1, 1) := by decide +kernel
theorem dX5_takeReturn_44 : decode cX5_takeReturn 44 = .ok (.getfield 172, 3) := by decide +kernel
theorem dX5_takeReturn_47 : decode cX5_takeReturn 47 = .ok (.invokevirtual 187, 3) := by decide +kernel
theorem dX5_takeReturn_50 : decode cX5_takeReturn 50 = .ok (.aload_n 0, 1) := by decide +kernel
theorem dX5_takeReturn_51 : decode cX5_takeReturn 51 = .ok (.getfield 30, 3) := by decide +kernel
theorem dX5_takeReturn_54 : decode cX5_takeReturn 54 = .ok (.aload_n 1, 1) := by decide +kernel
theorem dX5_takeReturn_55 : decode cX5_takeReturn 55 = .ok (.invokevirtual 112, 3) := by decide +kernel
theorem dX5_takeReturn_58 : decode cX5_takeReturn 58 = .ok (.return_, 1) := by decide +kernel
theorem dX5_emptyWire_0 : decode cX5_emptyWire 0 = .ok (.aload_n 1, 1) := by decide +kernel
theorem dX5_emptyWire_1 : decode cX5_emptyWire 1 = .ok (.getfield 163, 3) := by decide +kernel
theorem dX5_emptyWire_4 : decode cX5_emptyWire 4 = .ok (.istore_n 2, 1) := by decide +kernel
theorem dX5_emptyWire_5 : decode cX5_emptyWire 5 = .ok (.iload_n 2, 1) := by decide +kernel
theorem dX5_emptyWire_6 : decode cX5_emptyWire 6 = .ok (.ifCond .le 55, 3) := by decide +kernel
theorem dX5_emptyWire_9 : decode cX5_emptyWire 9 = .ok (.aload_n 1, 1) := by decide +kernel
theorem dX5_emptyWire_10 : decode cX5_emptyWire 10 = .ok (.getfield 99, 3) := by decide +kernel
theorem dX5_emptyWire_13 : decode cX5_emptyWire 13 = .ok (.ifnull 48, 3) := by decide +kernel
theorem dX5_emptyWire_16 : decode cX5_emptyWire 16 = .ok (.aload_n 1, 1) := by decide +kernel
theorem dX5_emptyWire_17 : decode cX5_emptyWire 17 = .ok (.getfield 99, 3) := by decide +kernel
theorem dX5_emptyWire_20 : decode cX5_emptyWire 20 = .ok (.getfield 166, 3) := by decide +kernel
theorem dX5_emptyWire_23 : decode cX5_emptyWire 23 = .ok (.aload_n 0, 1) := by decide +kernel
theorem dX5_emptyWire_24 : decode cX5_emptyWire 24 = .ok (.getfield 56, 3) := by decide +kernel
theorem dX5_emptyWire_27 : decode cX5_emptyWire 27 = .ok (.if_icmp .eq 6, 3) := by decide +kernel
theorem dX5_emptyWire_30 : decode cX5_emptyWire 30 = .ok (.goto 31, 3) := by decide +kernel
theorem dX5_emptyWire_33 : decode cX5_emptyWire 33 = .ok (.aload_n 1, 1) := by decide +kernel
theorem dX5_emptyWire_34 : decode cX5_emptyWire 34 = .ok (.invokevirtual 118, 3) := by decide +kernel
theorem dX5_emptyWire_37 : decode cX5_emptyWire 37 = .ok (.astore_n 3, 1) := by decide +kernel
theorem dX5_emptyWire_38 : decode cX5_emptyWire 38 = .ok (.aload_n 3, 1) := by decide +kernel
theorem dX5_emptyWire_39 : decode cX5_emptyWire 39 = .ok (.ifnull 16, 3) := by decide +kernel
theorem dX5_emptyWire_42 : decode cX5_emptyWire 42 = .ok (.aload_n 0, 1) := by decide +kernel
theorem dX5_emptyWire_43 : decode cX5_emptyWire 43 = .ok (.aload_n 3, 1) := by decide +kernel
theorem dX5_emptyWire_44 : decode cX5_emptyWire 44 = .ok (.aload_n 0, 1) := by decide +kernel
theorem dX5_emptyWire_45 : decode cX5_emptyWire 45 = .ok (.aload_n 3, 1) := by decide +kernel
theorem dX5_emptyWire_46 : decode cX5_emptyWire 46 = .ok (.getfield 172, 3) := by decide +kernel
theorem dX5_emptyWire_49 : decode cX5_emptyWire 49 = .ok (.invokevirtual 175, 3) := by decide +kernel
theorem dX5_emptyWire_52 : decode cX5_emptyWire 52 = .ok (.invokevirtual 191, 3) := by decide +kernel
theorem dX5_emptyWire_55 : decode cX5_emptyWire 55 = .ok (.iinc 2 (-1), 3) := by decide +kernel
theorem dX5_emptyWire_58 : decode cX5_emptyWire 58 = .ok (.goto (-53), 3) := by decide +kernel
theorem dX5_emptyWire_61 : decode cX5_emptyWire 61 = .ok (.return_, 1) := by decide +kernel
theorem dX5_sendFrom_0 : decode cX5_sendFrom 0 = .ok (.iconst 0, 1) := by decide +kernel
theorem dX5_sendFrom_1 : decode cX5_sendFrom 1 = .ok (.istore_n 3, 1) := by decide +kernel
theorem dX5_sendFrom_2 : decode cX5_sendFrom 2 = .ok (.iload_n 3, 1) := by decide +kernel
theorem dX5_sendFrom_3 : decode cX5_sendFrom 3 = .ok (.iconst 2, 1) := by decide +kernel
theorem dX5_sendFrom_4 : decode cX5_sendFrom 4 = .ok (.if_icmp .ge 73, 3) := by decide +kernel
theorem dX5_sendFrom_7 : decode cX5_sendFrom 7 = .ok (.aload_n 2, 1) := by decide +kernel
theorem dX5_sendFrom_8 : decode cX5_sendFrom 8 = .ok (.invokevirtual 195, 3) := by decide +kernel
theorem dX5_sendFrom_11 : decode cX5_sendFrom 11 = .ok (.ifCond .eq 66, 3) := by decide +kernel
theorem dX5_sendFrom_14 : decode cX5_sendFrom 14 = .ok (.aload_n 0, 1) := by decide +kernel
theorem dX5_sendFrom_15 : decode cX5_sendFrom 15 = .ok (.invokevirtual 103, 3) := by decide +kernel
theorem dX5_sendFrom_18 : decode cX5_sendFrom 18 = .ok (.astore 4, 2) := by decide +kernel
theorem dX5_sendFrom_20 : decode cX5_sendFrom 20 = .ok (.aload 4, 2) := by decide +kernel
theorem dX5_sendFrom_22 : decode cX5_sendFrom 22 = .ok (.ifnonnull 6, 3) := by decide +kernel
theorem dX5_sendFrom_25 : decode cX5_sendFrom 25 = .ok (.goto 52, 3) := by decide +kernel
theorem dX5_sendFrom_28 : decode cX5_sendFrom 28 = .ok (.aload 4, 2) := by decide +kernel
theorem dX5_sendFrom_30 : decode cX5_sendFrom 30 = .ok (.iload_n 1, 1) := by decide +kernel
theorem dX5_sendFrom_31 : decode cX5_sendFrom 31 = .ok (.aload_n 0, 1) := by decide +kernel
theorem dX5_sendFrom_32 : decode cX5_sendFrom 32 = .ok (.getfield 56, 3) := by decide +kernel
theorem dX5_sendFrom_35 : decode cX5_sendFrom 35 = .ok (.aload_n 2, 1) := by decide +kernel
theorem dX5_sendFrom_36 : decode cX5_sendFrom 36 = .ok (.invokevirtual 198, 3) := by decide +kernel
theorem dX5_sendFrom_39 : decode cX5_sendFrom 39 = .ok (.aload_n 2, 1) := by decide +kernel
theorem dX5_sendFrom_40 : decode cX5_sendFrom 40 = .ok (.invokevirtual 202, 3) := by decide +kernel
theorem dX5_sendFrom_43 : decode cX5_sendFrom 43 = .ok (.aload_n 2, 1) := by decide +kernel
theorem dX5_sendFrom_44 : decode cX5_sendFrom 44 = .ok (.getfield 205, 3) := by decide +kernel
theorem dX5_sendFrom_47 : decode cX5_sendFrom 47 = .ok (.ifCond .ne 17, 3) := by decide +kernel
theorem dX5_sendFrom_50 : decode cX5_sendFrom 50 = .ok (.aload_n 0, 1) := by decide +kernel
theorem dX5_sendFrom_51 : decode cX5_sendFrom 51 = .ok (.getfield 36, 3) := by decide +kernel
theorem dX5_sendFrom_54 : decode cX5_sendFrom 54 = .ok (.iconst 3, 1) := by decide +kernel
theorem dX5_sendFrom_55 : decode cX5_sendFrom 55 = .ok (.aload_n 0, 1) := by decide +kernel
theorem dX5_sendFrom_56 : decode cX5_sendFrom 56 = .ok (.getfield 56, 3) := by decide +kernel
theorem dX5_sendFrom_59 : decode cX5_sendFrom 59 = .ok (.iconst (-1), 1) := by decide +kernel
theorem dX5_sendFrom_60 : decode cX5_sendFrom 60 = .ok (.iload_n 1, 1) := by decide +kernel
theorem dX5_sendFrom_61 : decode cX5_sendFrom 61 = .ok (.invokevirtual 187, 3) := by decide +kernel
theorem dX5_sendFrom_64 : decode cX5_sendFrom 64 = .ok (.aload_n 0, 1) := by decide +kernel
theorem dX5_sendFrom_65 : decode cX5_sendFrom 65 = .ok (.aload 4, 2) := by decide +kernel
theorem dX5_sendFrom_67 : decode cX5_sendFrom 67 = .ok (.aload_n 2, 1) := by decide +kernel
theorem dX5_sendFrom_68 : decode cX5_sendFrom 68 = .ok (.invokevirtual 191, 3) := by decide +kernel
theorem dX5_sendFrom_71 : decode cX5_sendFrom 71 = .ok (.iinc 3 1, 3) := by decide +kernel
theorem dX5_sendFrom_74 : decode cX5_sendFrom 74 = .ok (.goto (-72), 3) := by decide +kernel
theorem dX5_sendFrom_77 : decode cX5_sendFrom 77 = .ok (.return_, 1) := by decide +kernel
theorem dX5_goOn_0 : decode cX5_goOn 0 = .ok (.aload_n 2, 1) := by decide +kernel
theorem dX5_goOn_1 : decode cX5_goOn 1 = .ok (.ifnonnull 12, 3) := by decide +kernel
theorem dX5_goOn_4 : decode cX5_goOn 4 = .ok (.aload_n 0, 1) := by decide +kernel
theorem dX5_goOn_5 : decode cX5_goOn 5 = .ok (.getfield 30, 3) := by decide +kernel
theorem dX5_goOn_8 : decode cX5_goOn 8 = .ok (.aload_n 1, 1) := by decide +kernel
theorem dX5_goOn_9 : decode cX5_goOn 9 = .ok (.invokevirtual 112, 3) := by decide +kernel
theorem dX5_goOn_12 : decode cX5_goOn 12 = .ok (.return_, 1) := by decide +kernel
theorem dX5_goOn_13 : decode cX5_goOn 13 = .ok (.aload_n 2, 1) := by decide +kernel
theorem dX5_goOn_14 : decode cX5_goOn 14 = .ok (.aload_n 1, 1) := by decide +kernel
theorem dX5_goOn_15 : decode cX5_goOn 15 = .ok (.getfield 208, 3) := by decide +kernel
theorem dX5_goOn_18 : decode cX5_goOn 18 = .ok (.invokevirtual 128, 3) := by decide +kernel
theorem dX5_goOn_21 : decode cX5_goOn 21 = .ok (.istore_n 3, 1) := by decide +kernel
theorem dX5_goOn_22 : decode cX5_goOn 22 = .ok (.aload_n 0, 1) := by decide +kernel
theorem dX5_goOn_23 : decode cX5_goOn 23 = .ok (.iload_n 3, 1) := by decide +kernel
theorem dX5_goOn_24 : decode cX5_goOn 24 = .ok (.invokevirtual 132, 3) := by decide +kernel
theorem dX5_goOn_27 : decode cX5_goOn 27 = .ok (.astore 4, 2) := by decide +kernel
theorem dX5_goOn_29 : decode cX5_goOn 29 = .ok (.aload 4, 2) := by decide +kernel
theorem dX5_goOn_31 : decode cX5_goOn 31 = .ok (.ifnonnull 12, 3) := by decide +kernel
theorem dX5_goOn_34 : decode cX5_goOn 34 = .ok (.aload_n 0, 1) := by decide +kernel
theorem dX5_goOn_35 : decode cX5_goOn 35 = .ok (.aload_n 1, 1) := by decide +kernel
theorem dX5_goOn_36 : decode cX5_goOn 36 = .ok (.aload_n 2, 1) := by decide +kernel
theorem dX5_goOn_37 : decode cX5_goOn 37 = .ok (.invokevirtual 211, 3) := by decide +kernel
theorem dX5_goOn_40 : decode cX5_goOn 40 = .ok (.goto 62, 3) := by decide +kernel
theorem dX5_goOn_43 : decode cX5_goOn 43 = .ok (.aload 4, 2) := by decide +kernel
theorem dX5_goOn_45 : decode cX5_goOn 45 = .ok (.aload_n 1, 1) := by decide +kernel
theorem dX5_goOn_46 : decode cX5_goOn 46 = .ok (.getfield 172, 3) := by decide +kernel
theorem dX5_goOn_49 : decode cX5_goOn 49 = .ok (.invokevirtual 214, 3) := by decide +kernel
theorem dX5_goOn_52 : decode cX5_goOn 52 = .ok (.ifCond .eq 12, 3) := by decide +kernel
theorem dX5_goOn_55 : decode cX5_goOn 55 = .ok (.aload 4, 2) := by decide +kernel
theorem dX5_goOn_57 : decode cX5_goOn 57 = .ok (.aload_n 1, 1) := by decide +kernel
theorem dX5_goOn_58 : decode cX5_goOn 58 = .ok (.invokevirtual 218, 3) := by decide +kernel
theorem dX5_goOn_61 : decode cX5_goOn 61 = .ok (.goto 41, 3) := by decide +kernel
theorem dX5_goOn_64 : decode cX5_goOn 64 = .ok (.aload_n 1, 1) := by decide +kernel
theorem dX5_goOn_65 : decode cX5_goOn 65 = .ok (.iconst 1, 1) := by decide +kernel
theorem dX5_goOn_66 : decode cX5_goOn 66 = .ok (.putfield 221, 3) := by decide +kernel
theorem dX5_goOn_69 : decode cX5_goOn 69 = .ok (.aload_n 0, 1) := by decide +kernel
theorem dX5_goOn_70 : decode cX5_goOn 70 = .ok (.dup, 1) := by decide +kernel
theorem dX5_goOn_71 : decode cX5_goOn 71 = .ok (.getfield 62, 3) := by decide +kernel
theorem dX5_goOn_74 : decode cX5_goOn 74 = .ok (.iconst 1, 1) := by decide +kernel
theorem dX5_goOn_75 : decode cX5_goOn 75 = .ok (.iadd, 1) := by decide +kernel
theorem dX5_goOn_76 : decode cX5_goOn 76 = .ok (.putfield 62, 3) := by decide +kernel
theorem dX5_goOn_79 : decode cX5_goOn 79 = .ok (.aload_n 0, 1) := by decide +kernel
theorem dX5_goOn_80 : decode cX5_goOn 80 = .ok (.getfield 36, 3) := by decide +kernel
theorem dX5_goOn_83 : decode cX5_goOn 83 = .ok (.iconst 0, 1) := by decide +kernel
theorem dX5_goOn_84 : decode cX5_goOn 84 = .ok (.aload_n 0, 1) := by decide +kernel
theorem dX5_goOn_85 : decode cX5_goOn 85 = .ok (.getfield 56, 3) := by decide +kernel
theorem dX5_goOn_88 : decode cX5_goOn 88 = .ok (.iload_n 3, 1) := by decide +kernel
theorem dX5_goOn_89 : decode cX5_goOn 89 = .ok (.aload_n 1, 1) := by decide +kernel
theorem dX5_goOn_90 : decode cX5_goOn 90 = .ok (.getfield 172, 3) := by decide +kernel
theorem dX5_goOn_93 : decode cX5_goOn 93 = .ok (.invokevirtual 187, 3) := by decide +kernel
theorem dX5_goOn_96 : decode cX5_goOn 96 = .ok (.aload_n 0, 1) := by decide +kernel
theorem dX5_goOn_97 : decode cX5_goOn 97 = .ok (.aload_n 1, 1) := by decide +kernel
theorem dX5_goOn_98 : decode cX5_goOn 98 = .ok (.aload_n 2, 1) := by decide +kernel
theorem dX5_goOn_99 : decode cX5_goOn 99 = .ok (.invokevirtual 211, 3) := by decide +kernel
theorem dX5_goOn_102 : decode cX5_goOn 102 = .ok (.return_, 1) := by decide +kernel
theorem dX5_sendBack_0 : decode cX5_sendBack 0 = .ok (.aload_n 1, 1) := by decide +kernel
theorem dX5_sendBack_1 : decode cX5_sendBack 1 = .ok (.aload_n 0, 1) := by decide +kernel
theorem dX5_sendBack_2 : decode cX5_sendBack 2 = .ok (.getfield 56, 3) := by decide +kernel
theorem dX5_sendBack_5 : decode cX5_sendBack 5 = .ok (.aload_n 2, 1) := by decide +kernel
theorem dX5_sendBack_6 : decode cX5_sendBack 6 = .ok (.getfield 139, 3) := by decide +kernel
theorem dX5_sendBack_9 : decode cX5_sendBack 9 = .ok (.iadd, 1) := by decide +kernel
theorem dX5_sendBack_10 : decode cX5_sendBack 10 = .ok (.putfield 166, 3) := by decide +kernel
theorem dX5_sendBack_13 : decode cX5_sendBack 13 = .ok (.aload_n 0, 1) := by decide +kernel
theorem dX5_sendBack_14 : decode cX5_sendBack 14 = .ok (.getfield 26, 3) := by decide +kernel
theorem dX5_sendBack_17 : decode cX5_sendBack 17 = .ok (.aload_n 1, 1) := by decide +kernel
theorem dX5_sendBack_18 : decode cX5_sendBack 18 = .ok (.invokevirtual 112, 3) := by decide +kernel
theorem dX5_sendBack_21 : decode cX5_sendBack 21 = .ok (.return_, 1) := by decide +kernel
theorem dX5_endSpanIfDue_0 : decode cX5_endSpanIfDue 0 = .ok (.aload_n 2, 1) := by decide +kernel
theorem dX5_endSpanIfDue_1 : decode cX5_endSpanIfDue 1 = .ok (.aload_n 0, 1) := by decide +kernel
theorem dX5_endSpanIfDue_2 : decode cX5_endSpanIfDue 2 = .ok (.getfield 56, 3) := by decide +kernel
theorem dX5_endSpanIfDue_5 : decode cX5_endSpanIfDue 5 = .ok (.invokevirtual 224, 3) := by decide +kernel
theorem dX5_endSpanIfDue_8 : decode cX5_endSpanIfDue 8 = .ok (.ifCond .eq 22, 3) := by decide +kernel
theorem dX5_endSpanIfDue_11 : decode cX5_endSpanIfDue 11 = .ok (.aload_n 2, 1) := by decide +kernel
theorem dX5_endSpanIfDue_12 : decode cX5_endSpanIfDue 12 = .ok (.getfield 227, 3) := by decide +kernel
theorem dX5_endSpanIfDue_15 : decode cX5_endSpanIfDue 15 = .ok (.istore_n 3, 1) := by decide +kernel
theorem dX5_endSpanIfDue_16 : decode cX5_endSpanIfDue 16 = .ok (.aload_n 2, 1) := by decide +kernel
theorem dX5_endSpanIfDue_17 : decode cX5_endSpanIfDue 17 = .ok (.invokevirtual 230, 3) := by decide +kernel
theorem dX5_endSpanIfDue_20 : decode cX5_endSpanIfDue 20 = .ok (.aload_n 0, 1) := by decide +kernel
theorem dX5_endSpanIfDue_21 : decode cX5_endSpanIfDue 21 = .ok (.iload_n 1, 1) := by decide +kernel
theorem dX5_endSpanIfDue_22 : decode cX5_endSpanIfDue 22 = .ok (.iload_n 3, 1) := by decide +kernel
theorem dX5_endSpanIfDue_23 : decode cX5_endSpanIfDue 23 = .ok (.aload_n 2, 1) := by decide +kernel
theorem dX5_endSpanIfDue_24 : decode cX5_endSpanIfDue 24 = .ok (.getfield 227, 3) := by decide +kernel
theorem dX5_endSpanIfDue_27 : decode cX5_endSpanIfDue 27 = .ok (.invokevirtual 233, 3) := by decide +kernel
theorem dX5_endSpanIfDue_30 : decode cX5_endSpanIfDue 30 = .ok (.return_, 1) := by decide +kernel
theorem dX5_tellCaught_0 : decode cX5_tellCaught 0 = .ok (.iconst 0, 1) := by decide +kernel
theorem dX5_tellCaught_1 : decode cX5_tellCaught 1 = .ok (.istore 4, 2) := by decide +kernel
theorem dX5_tellCaught_3 : decode cX5_tellCaught 3 = .ok (.iload 4, 2) := by decide +kernel
theorem dX5_tellCaught_5 : decode cX5_tellCaught 5 = .ok (.aload_n 0, 1) := by decide +kernel
theorem dX5_tellCaught_6 : decode cX5_tellCaught 6 = .ok (.getfield 53, 3) := by decide +kernel
theorem dX5_tellCaught_9 : decode cX5_tellCaught 9 = .ok (.if_icmp .ge 57, 3) := by decide +kernel
theorem dX5_tellCaught_12 : decode cX5_tellCaught 12 = .ok (.iload_n 2, 1) := by decide +kernel
theorem dX5_tellCaught_13 : decode cX5_tellCaught 13 = .ok (.iload 4, 2) := by decide +kernel
theorem dX5_tellCaught_15 : decode cX5_tellCaught 15 = .ok (.ishr, 1) := by decide +kernel
theorem dX5_tellCaught_16 : decode cX5_tellCaught 16 = .ok (.iconst 1, 1) := by decide +kernel
theorem dX5_tellCaught_17 : decode cX5_tellCaught 17 = .ok (.iand, 1) := by decide +kernel
theorem dX5_tellCaught_18 : decode cX5_tellCaught 18 = .ok (.istore 5, 2) := by decide +kernel
theorem dX5_tellCaught_20 : decode cX5_tellCaught 20 = .ok (.iload_n 3, 1) := by decide +kernel
theorem dX5_tellCaught_21 : decode cX5_tellCaught 21 = .ok (.iload 4, 2) := by decide +kernel
theorem dX5_tellCaught_23 : decode cX5_tellCaught 23 = .ok (.ishr, 1) := by decide +kernel
theorem dX5_tellCaught_24 : decode cX5_tellCaught 24 = .ok (.iconst 1, 1) := by decide +kernel
theorem dX5_tellCaught_25 : decode cX5_tellCaught 25 = .ok (.iand, 1) := by decide +kernel
theorem dX5_tellCaught_26 : decode cX5_tellCaught 26 = .ok (.istore 6, 2) := by decide +kernel
theorem dX5_tellCaught_28 : decode cX5_tellCaught 28 = .ok (.iload 5, 2) := by decide +kernel
theorem dX5_tellCaught_30 : decode cX5_tellCaught 30 = .ok (.iload 6, 2) := by decide +kernel
theorem dX5_tellCaught_32 : decode cX5_tellCaught 32 = .ok (.if_icmp .eq 28, 3) := by decide +kernel
theorem dX5_tellCaught_35 : decode cX5_tellCaught 35 = .ok (.aload_n 0, 1) := by decide +kernel
theorem dX5_tellCaught_36 : decode cX5_tellCaught 36 = .ok (.getfield 36, 3) := by decide +kernel
theorem dX5_tellCaught_39 : decode cX5_tellCaught 39 = .ok (.iload 6, 2) := by decide +kernel
theorem dX5_tellCaught_41 : decode cX5_tellCaught 41 = .ok (.iconst 1, 1) := by decide +kernel
theorem dX5_tellCaught_42 : decode cX5_tellCaught 42 = .ok (.if_icmp .ne 7, 3) := by decide +kernel
theorem dX5_tellCaught_45 : decode cX5_tellCaught 45 = .ok (.iconst 1, 1) := by decide +kernel
theorem dX5_tellCaught_46 : decode cX5_tellCaught 46 = .ok (.goto 4, 3) := by decide +kernel
theorem dX5_tellCaught_49 : decode cX5_tellCaught 49 = .ok (.iconst 2, 1) := by decide +kernel
theorem dX5_tellCaught_50 : decode cX5_tellCaught 50 = .ok (.aload_n 0, 1) := by decide +kernel
theorem dX5_tellCaught_51 : decode cX5_tellCaught 51 = .ok (.getfield 56, 3) := by decide +kernel
theorem dX5_tellCaught_54 : decode cX5_tellCaught 54 = .ok (.iload_n 1, 1) := by decide +kernel
theorem dX5_tellCaught_55 : decode cX5_tellCaught 55 = .ok (.iload 4, 2) := by decide +kernel
theorem dX5_tellCaught_57 : decode cX5_tellCaught 57 = .ok (.invokevirtual 187, 3) := by decide +kernel
theorem dX5_tellCaught_60 : decode cX5_tellCaught 60 = .ok (.iinc 4 1, 3) := by decide +kernel
theorem dX5_tellCaught_63 : decode cX5_tellCaught 63 = .ok (.goto (-60), 3) := by decide +kernel
theorem dX5_tellCaught_66 : decode cX5_tellCaught 66 = .ok (.return_, 1) := by decide +kernel
theorem dX5_keepWindows_0 : decode cX5_keepWindows 0 = .ok (.aload_n 0, 1) := by decide +kernel
theorem dX5_keepWindows_1 : decode cX5_keepWindows 1 = .ok (.getfield 56, 3) := by decide +kernel
theorem dX5_keepWindows_4 : decode cX5_keepWindows 4 = .ok (.bipush 20, 2) := by decide +kernel
theorem dX5_keepWindows_6 : decode cX5_keepWindows 6 = .ok (.irem, 1) := by decide +kernel
theorem dX5_keepWindows_7 : decode cX5_keepWindows 7 = .ok (.bipush 6, 2) := by decide +kernel
theorem dX5_keepWindows_9 : decode cX5_keepWindows 9 = .ok (.imul, 1) := by decide +kernel
theorem dX5_keepWindows_10 : decode cX5_keepWindows 10 = .ok (.istore_n 1, 1) := by decide +kernel
theorem dX5_keepWindows_11 : decode cX5_keepWindows 11 = .ok (.iload_n 1, 1) := by decide +kernel
theorem dX5_keepWindows_12 : decode cX5_keepWindows 12 = .ok (.ifCond .ge 4, 3) := by decide +kernel
theorem dX5_keepWindows_15 : decode cX5_keepWindows 15 = .ok (.return_, 1) := by decide +kernel
theorem dX5_keepWindows_16 : decode cX5_keepWindows 16 = .ok (.iconst 0, 1) := by decide +kernel
theorem dX5_keepWindows_17 : decode cX5_keepWindows 17 = .ok (.istore_n 2, 1) := by decide +kernel
theorem dX5_keepWindows_18 : decode cX5_keepWindows 18 = .ok (.iload_n 2, 1) := by decide +kernel
theorem dX5_keepWindows_19 : decode cX5_keepWindows 19 = .ok (.aload_n 0, 1) := by decide +kernel
theorem dX5_keepWindows_20 : decode cX5_keepWindows 20 = .ok (.getfield 53, 3) := by decide +kernel
theorem dX5_keepWindows_23 : decode cX5_keepWindows 23 = .ok (.if_icmp .ge 26, 3) := by decide +kernel
theorem dX5_keepWindows_26 : decode cX5_keepWindows 26 = .ok (.aload_n 0, 1) := by decide +kernel
theorem dX5_keepWindows_27 : decode cX5_keepWindows 27 = .ok (.getfield 40, 3) := by decide +kernel
theorem dX5_keepWindows_30 : decode cX5_keepWindows 30 = .ok (.iload_n 1, 1) := by decide +kernel
theorem dX5_keepWindows_31 : decode cX5_keepWindows 31 = .ok (.iload_n 2, 1) := by decide +kernel
theorem dX5_keepWindows_32 : decode cX5_keepWindows 32 = .ok (.iadd, 1) := by decide +kernel
theorem dX5_keepWindows_33 : decode cX5_keepWindows 33 = .ok (.aload_n 0, 1) := by decide +kernel
theorem dX5_keepWindows_34 : decode cX5_keepWindows 34 = .ok (.getfield 19, 3) := by decide +kernel
theorem dX5_keepWindows_37 : decode cX5_keepWindows 37 = .ok (.iload_n 2, 1) := by decide +kernel
theorem dX5_keepWindows_38 : decode cX5_keepWindows 38 = .ok (.aaload, 1) := by decide +kernel
theorem dX5_keepWindows_39 : decode cX5_keepWindows 39 = .ok (.getfield 237, 3) := by decide +kernel
theorem dX5_keepWindows_42 : decode cX5_keepWindows 42 = .ok (.iastore, 1) := by decide +kernel
theorem dX5_keepWindows_43 : decode cX5_keepWindows 43 = .ok (.iinc 2 1, 3) := by decide +kernel
theorem dX5_keepWindows_46 : decode cX5_keepWindows 46 = .ok (.goto (-28), 3) := by decide +kernel
theorem dX5_keepWindows_49 : decode cX5_keepWindows 49 = .ok (.return_, 1) := by decide +kernel
theorem dX5_pastWindow_0 : decode cX5_pastWindow 0 = .ok (.aload_n 0, 1) := by decide +kernel
theorem dX5_pastWindow_1 : decode cX5_pastWindow 1 = .ok (.getfield 56, 3) := by decide +kernel
theorem dX5_pastWindow_4 : decode cX5_pastWindow 4 = .ok (.iload_n 2, 1) := by decide +kernel
theorem dX5_pastWindow_5 : decode cX5_pastWindow 5 = .ok (.isub, 1) := by decide +kernel
theorem dX5_pastWindow_6 : decode cX5_pastWindow 6 = .ok (.bipush 20, 2) := by decide +kernel
theorem dX5_pastWindow_8 : decode cX5_pastWindow 8 = .ok (.invokestatic 240, 3) := by decide +kernel
theorem dX5_pastWindow_11 : decode cX5_pastWindow 11 = .ok (.bipush 6, 2) := by decide +kernel
theorem dX5_pastWindow_13 : decode cX5_pastWindow 13 = .ok (.imul, 1) := by decide +kernel
theorem dX5_pastWindow_14 : decode cX5_pastWindow 14 = .ok (.iload_n 1, 1) := by decide +kernel
theorem dX5_pastWindow_15 : decode cX5_pastWindow 15 = .ok (.iadd, 1) := by decide +kernel
theorem dX5_pastWindow_16 : decode cX5_pastWindow 16 = .ok (.istore_n 3, 1) := by decide +kernel
theorem dX5_pastWindow_17 : decode cX5_pastWindow 17 = .ok (.iload_n 3, 1) := by decide +kernel
theorem dX5_pastWindow_18 : decode cX5_pastWindow 18 = .ok (.ifCond .lt 21, 3) := by decide +kernel
theorem dX5_pastWindow_21 : decode cX5_pastWindow 21 = .ok (.iload_n 3, 1) := by decide +kernel
theorem dX5_pastWindow_22 : decode cX5_pastWindow 22 = .ok (.aload_n 0, 1) := by decide +kernel
theorem dX5_pastWindow_23 : decode cX5_pastWindow 23 = .ok (.getfield 40, 3) := by decide +kernel
theorem dX5_pastWindow_26 : decode cX5_pastWindow 26 = .ok (.arraylength, 1) := by decide +kernel
theorem dX5_pastWindow_27 : decode cX5_pastWindow 27 = .ok (.if_icmp .ge 12, 3) := by decide +kernel
theorem dX5_pastWindow_30 : decode cX5_pastWindow 30 = .ok (.aload_n 0, 1) := by decide +kernel
theorem dX5_pastWindow_31 : decode cX5_pastWindow 31 = .ok (.getfield 40, 3) := by decide +kernel
theorem dX5_pastWindow_34 : decode cX5_pastWindow 34 = .ok (.iload_n 3, 1) := by decide +kernel
theorem dX5_pastWindow_35 : decode cX5_pastWindow 35 = .ok (.iaload, 1) := by decide +kernel
theorem dX5_pastWindow_36 : decode cX5_pastWindow 36 = .ok (.goto 4, 3) := by decide +kernel
theorem dX5_pastWindow_39 : decode cX5_pastWindow 39 = .ok (.iconst (-1), 1) := by decide +kernel
theorem dX5_pastWindow_40 : decode cX5_pastWindow 40 = .ok (.ireturn, 1) := by decide +kernel
theorem dX5_linksThatCaught_0 : decode cX5_linksThatCaught 0 = .ok (.iconst 0, 1) := by decide +kernel
theorem dX5_linksThatCaught_1 : decode cX5_linksThatCaught 1 = .ok (.istore_n 2, 1) := by decide +kernel
theorem dX5_linksThatCaught_2 : decode cX5_linksThatCaught 2 = .ok (.iconst 0, 1) := by decide +kernel
theorem dX5_linksThatCaught_3 : decode cX5_linksThatCaught 3 = .ok (.istore_n 3, 1) := by decide +kernel
theorem dX5_linksThatCaught_4 : decode cX5_linksThatCaught 4 = .ok (.iload_n 3, 1) := by decide +kernel
theorem dX5_linksThatCaught_5 : decode cX5_linksThatCaught 5 = .ok (.aload_n 0, 1) := by decide +kernel
theorem dX5_linksThatCaught_6 : decode cX5_linksThatCaught 6 = .ok (.getfield 49, 3) := by decide +kernel
theorem dX5_linksThatCaught_9 : decode cX5_linksThatCaught 9 = .ok (.if_icmp .ge 28, 3) := by decide +kernel
theorem dX5_linksThatCaught_12 : decode cX5_linksThatCaught 12 = .ok (.aload_n 0, 1) := by decide +kernel
theorem dX5_linksThatCaught_13 : decode cX5_linksThatCaught 13 = .ok (.getfield 11, 3) := by decide +kernel
theorem dX5_linksThatCaught_16 : decode cX5_linksThatCaught 16 = .ok (.iload_n 3, 1) := by decide +kernel
theorem dX5_linksThatCaught_17 : decode cX5_linksThatCaught 17 = .ok (.aaload, 1) := by decide +kernel
theorem dX5_linksThatCaught_18 : decode cX5_linksThatCaught 18 = .ok (.iload_n 1, 1) := by decide +kernel
theorem dX5_linksThatCaught_19 : decode cX5_linksThatCaught 19 = .ok (.invokevirtual 246, 3) := by decide +kernel
theorem dX5_linksThatCaught_22 : decode cX5_linksThatCaught 22 = .ok (.ifCond .eq 9, 3) := by decide +kernel
theorem dX5_linksThatCaught_25 : decode cX5_linksThatCaught 25 = .ok (.iload_n 2, 1) := by decide +kernel
theorem dX5_linksThatCaught_26 : decode cX5_linksThatCaught 26 = .ok (.iconst 1, 1) := by decide +kernel
theorem dX5_linksThatCaught_27 : decode cX5_linksThatCaught 27 = .ok (.iload_n 3, 1) := by decide +kernel
theorem dX5_linksThatCaught_28 : decode cX5_linksThatCaught 28 = .ok (.ishl, 1) := by decide +kernel
theorem dX5_linksThatCaught_29 : decode cX5_linksThatCaught 29 = .ok (.ior, 1) := by decide +kernel
theorem dX5_linksThatCaught_30 : decode cX5_linksThatCaught 30 = .ok (.istore_n 2, 1) := by decide +kernel
theorem dX5_linksThatCaught_31 : decode cX5_linksThatCaught 31 = .ok (.iinc 3 1, 3) := by decide +kernel
theorem dX5_linksThatCaught_34 : decode cX5_linksThatCaught 34 = .ok (.goto (-30), 3) := by decide +kernel
theorem dX5_linksThatCaught_37 : decode cX5_linksThatCaught 37 = .ok (.iload_n 2, 1) := by decide +kernel
theorem dX5_linksThatCaught_38 : decode cX5_linksThatCaught 38 = .ok (.ireturn, 1) := by decide +kernel
theorem dX5_isThrough_0 : decode cX5_isThrough 0 = .ok (.aload_n 0, 1) := by decide +kernel
theorem dX5_isThrough_1 : decode cX5_isThrough 1 = .ok (.iload_n 1, 1) := by decide +kernel
theorem dX5_isThrough_2 : decode cX5_isThrough 2 = .ok (.invokevirtual 175, 3) := by decide +kernel
theorem dX5_isThrough_5 : decode cX5_isThrough 5 = .ok (.astore_n 2, 1) := by decide +kernel
theorem dX5_isThrough_6 : decode cX5_isThrough 6 = .ok (.aload_n 2, 1) := by decide +kernel
theorem dX5_isThrough_7 : decode cX5_isThrough 7 = .ok (.ifnull 14, 3) := by decide +kernel
theorem dX5_isThrough_10 : decode cX5_isThrough 10 = .ok (.aload_n 2, 1) := by decide +kernel
theorem dX5_isThrough_11 : decode cX5_isThrough 11 = .ok (.invokevirtual 183, 3) := by decide +kernel
theorem dX5_isThrough_14 : decode cX5_isThrough 14 = .ok (.ifCond .eq 7, 3) := by decide +kernel
theorem dX5_isThrough_17 : decode cX5_isThrough 17 = .ok (.iconst 1, 1) := by decide +kernel
theorem dX5_isThrough_18 : decode cX5_isThrough 18 = .ok (.goto 4, 3) := by decide +kernel
theorem dX5_isThrough_21 : decode cX5_isThrough 21 = .ok (.iconst 0, 1) := by decide +kernel
theorem dX5_isThrough_22 : decode cX5_isThrough 22 = .ok (.ireturn, 1) := by decide +kernel
theorem dX5_standing_0 : decode cX5_standing 0 = .ok (.iconst 0, 1) := by decide +kernel
theorem dX5_standing_1 : decode cX5_standing 1 = .ok (.istore_n 1, 1) := by decide +kernel
theorem dX5_standing_2 : decode cX5_standing 2 = .ok (.iconst 0, 1) := by decide +kernel
theorem dX5_standing_3 : decode cX5_standing 3 = .ok (.istore_n 2, 1) := by decide +kernel
theorem dX5_standing_4 : decode cX5_standing 4 = .ok (.iload_n 2, 1) := by decide +kernel
theorem dX5_standing_5 : decode cX5_standing 5 = .ok (.aload_n 0, 1) := by decide +kernel
theorem dX5_standing_6 : decode cX5_standing 6 = .ok (.getfield 49, 3) := by decide +kernel
theorem dX5_standing_9 : decode cX5_standing 9 = .ok (.if_icmp .ge 24, 3) := by decide +kernel
theorem dX5_standing_12 : decode cX5_standing 12 = .ok (.iload_n 1, 1) := by decide +kernel
theorem dX5_standing_13 : decode cX5_standing 13 = .ok (.aload_n 0, 1) := by decide +kernel
theorem dX5_standing_14 : decode cX5_standing 14 = .ok (.getfield 11, 3) := by decide +kernel
theorem dX5_standing_17 : decode cX5_standing 17 = .ok (.iload_n 2, 1) := by decide +kernel
theorem dX5_standing_18 : decode cX5_standing 18 = .ok (.aaload, 1) := by decide +kernel
theorem dX5_standing_19 : decode cX5_standing 19 = .ok (.getfield 73, 3) := by decide +kernel
theorem dX5_standing_22 : decode cX5_standing 22 = .ok (.getfield 163, 3) := by decide +kernel
theorem dX5_standing_25 : decode cX5_standing 25 = .ok (.iadd, 1) := by decide +kernel
theorem dX5_standing_26 : decode cX5_standing 26 = .ok (.istore_n 1, 1) := by decide +kernel
theorem dX5_standing_27 : decode cX5_standing 27 = .ok (.iinc 2 1, 3) := by decide +kernel
theorem dX5_standing_30 : decode cX5_standing 30 = .ok (.goto (-26), 3) := by decide +kernel
theorem dX5_standing_33 : decode cX5_standing 33 = .ok (.iload_n 1, 1) := by decide +kernel
theorem dX5_standing_34 : decode cX5_standing 34 = .ok (.ireturn, 1) := by decide +kernel
theorem dX5_wired_0 : decode cX5_wired 0 = .ok (.iconst 0, 1) := by decide +kernel
theorem dX5_wired_1 : decode cX5_wired 1 = .ok (.istore_n 1, 1) := by decide +kernel
theorem dX5_wired_2 : decode cX5_wired 2 = .ok (.iconst 0, 1) := by decide +kernel
theorem dX5_wired_3 : decode cX5_wired 3 = .ok (.istore_n 2, 1) := by decide +kernel
theorem dX5_wired_4 : decode cX5_wired 4 = .ok (.iload_n 2, 1) := by decide +kernel
theorem dX5_wired_5 : decode cX5_wired 5 = .ok (.aload_n 0, 1) := by decide +kernel
theorem dX5_wired_6 : decode cX5_wired 6 = .ok (.getfield 49, 3) := by decide +kernel
theorem dX5_wired_9 : decode cX5_wired 9 = .ok (.if_icmp .ge 24, 3) := by decide +kernel
theorem dX5_wired_12 : decode cX5_wired 12 = .ok (.iload_n 1, 1) := by decide +kernel
theorem dX5_wired_13 : decode cX5_wired 13 = .ok (.aload_n 0, 1) := by decide +kernel
theorem dX5_wired_14 : decode cX5_wired 14 = .ok (.getfield 11, 3) := by decide +kernel
theorem dX5_wired_17 : decode cX5_wired 17 = .ok (.iload_n 2, 1) := by decide +kernel
theorem dX5_wired_18 : decode cX5_wired 18 = .ok (.aaload, 1) := by decide +kernel
theorem dX5_wired_19 : decode cX5_wired 19 = .ok (.getfield 80, 3) := by decide +kernel
theorem dX5_wired_22 : decode cX5_wired 22 = .ok (.getfield 163, 3) := by decide +kernel
theorem dX5_wired_25 : decode cX5_wired 25 = .ok (.iadd, 1) := by decide +kernel
theorem dX5_wired_26 : decode cX5_wired 26 = .ok (.istore_n 1, 1) := by decide +kernel
theorem dX5_wired_27 : decode cX5_wired 27 = .ok (.iinc 2 1, 3) := by decide +kernel
theorem dX5_wired_30 : decode cX5_wired 30 = .ok (.goto (-26), 3) := by decide +kernel
theorem dX5_wired_33 : decode cX5_wired 33 = .ok (.iload_n 1, 1) := by decide +kernel
theorem dX5_wired_34 : decode cX5_wired 34 = .ok (.ireturn, 1) := by decide +kernel
theorem dX5_standingOf_0 : decode cX5_standingOf 0 = .ok (.iconst 0, 1) := by decide +kernel
theorem dX5_standingOf_1 : decode cX5_standingOf 1 = .ok (.istore_n 2, 1) := by decide +kernel
theorem dX5_standingOf_2 : decode cX5_standingOf 2 = .ok (.iconst 0, 1) := by decide +kernel
theorem dX5_standingOf_3 : decode cX5_standingOf 3 = .ok (.istore_n 3, 1) := by decide +kernel
theorem dX5_standingOf_4 : decode cX5_standingOf 4 = .ok (.iload_n 3, 1) := by decide +kernel
theorem dX5_standingOf_5 : decode cX5_standingOf 5 = .ok (.aload_n 0, 1) := by decide +kernel
theorem dX5_standingOf_6 : decode cX5_standingOf 6 = .ok (.getfield 49, 3) := by decide +kernel
theorem dX5_standingOf_9 : decode cX5_standingOf 9 = .ok (.if_icmp .ge 25, 3) := by decide +kernel
theorem dX5_standingOf_12 : decode cX5_standingOf 12 = .ok (.iload_n 2, 1) := by decide +kernel
theorem dX5_standingOf_13 : decode cX5_standingOf 13 = .ok (.aload_n 0, 1) := by decide +kernel
theorem dX5_standingOf_14 : decode cX5_standingOf 14 = .ok (.getfield 11, 3) := by decide +kernel
theorem dX5_standingOf_17 : decode cX5_standingOf 17 = .ok (.iload_n 3, 1) := by decide +kernel
theorem dX5_standingOf_18 : decode cX5_standingOf 18 = .ok (.aaload, 1) := by decide +kernel
theorem dX5_standingOf_19 : decode cX5_standingOf 19 = .ok (.getfield 73, 3) := by decide +kernel
theorem dX5_standingOf_22 : decode cX5_standingOf 22 = .ok (.iload_n 1, 1) := by decide +kernel
theorem dX5_standingOf_23 : decode cX5_standingOf 23 = .ok (.invokevirtual 249, 3) := by decide +kernel
theorem dX5_standingOf_26 : decode cX5_standingOf 26 = .ok (.iadd, 1) := by decide +kernel
theorem dX5_standingOf_27 : decode cX5_standingOf 27 = .ok (.istore_n 2, 1) := by decide +kernel
theorem dX5_standingOf_28 : decode cX5_standingOf 28 = .ok (.iinc 3 1, 3) := by decide +kernel
theorem dX5_standingOf_31 : decode cX5_standingOf 31 = .ok (.goto (-27), 3) := by decide +kernel
theorem dX5_standingOf_34 : decode cX5_standingOf 34 = .ok (.iload_n 2, 1) := by decide +kernel
theorem dX5_standingOf_35 : decode cX5_standingOf 35 = .ok (.ireturn, 1) := by decide +kernel
theorem dX5_wiredOf_0 : decode cX5_wiredOf 0 = .ok (.iconst 0, 1) := by decide +kernel
theorem dX5_wiredOf_1 : decode cX5_wiredOf 1 = .ok (.istore_n 2, 1) := by decide +kernel
theorem dX5_wiredOf_2 : decode cX5_wiredOf 2 = .ok (.iconst 0, 1) := by decide +kernel
theorem dX5_wiredOf_3 : decode cX5_wiredOf 3 = .ok (.istore_n 3, 1) := by decide +kernel
theorem dX5_wiredOf_4 : decode cX5_wiredOf 4 = .ok (.iload_n 3, 1) := by decide +kernel
theorem dX5_wiredOf_5 : decode cX5_wiredOf 5 = .ok (.aload_n 0, 1) := by decide +kernel
theorem dX5_wiredOf_6 : decode cX5_wiredOf 6 = .ok (.getfield 49, 3) := by decide +kernel
theorem dX5_wiredOf_9 : decode cX5_wiredOf 9 = .ok (.if_icmp .ge 25, 3) := by decide +kernel
theorem dX5_wiredOf_12 : decode cX5_wiredOf 12 = .ok (.iload_n 2, 1) := by decide +kernel
theorem dX5_wiredOf_13 : decode cX5_wiredOf 13 = .ok (.aload_n 0, 1) := by decide +kernel
theorem dX5_wiredOf_14 : decode cX5_wiredOf 14 = .ok (.getfield 11, 3) := by decide +kernel
theorem dX5_wiredOf_17 : decode cX5_wiredOf 17 = .ok (.iload_n 3, 1) := by decide +kernel
theorem dX5_wiredOf_18 : decode cX5_wiredOf 18 = .ok (.aaload, 1) := by decide +kernel
theorem dX5_wiredOf_19 : decode cX5_wiredOf 19 = .ok (.getfield 80, 3) := by decide +kernel
theorem dX5_wiredOf_22 : decode cX5_wiredOf 22 = .ok (.iload_n 1, 1) := by decide +kernel
theorem dX5_wiredOf_23 : decode cX5_wiredOf 23 = .ok (.invokevirtual 249, 3) := by decide +kernel
theorem dX5_wiredOf_26 : decode cX5_wiredOf 26 = .ok (.iadd, 1) := by decide +kernel
theorem dX5_wiredOf_27 : decode cX5_wiredOf 27 = .ok (.istore_n 2, 1) := by decide +kernel
theorem dX5_wiredOf_28 : decode cX5_wiredOf 28 = .ok (.iinc 3 1, 3) := by decide +kernel
theorem dX5_wiredOf_31 : decode cX5_wiredOf 31 = .ok (.goto (-27), 3) := by decide +kernel
theorem dX5_wiredOf_34 : decode cX5_wiredOf 34 = .ok (.iload_n 2, 1) := by decide +kernel
theorem dX5_wiredOf_35 : decode cX5_wiredOf 35 = .ok (.ireturn, 1) := by decide +kernel
theorem dX5_firstSentOf_0 : decode cX5_firstSentOf 0 = .ok (.aload_n 0, 1) := by decide +kernel
theorem dX5_firstSentOf_1 : decode cX5_firstSentOf 1 = .ok (.getfield 26, 3) := by decide +kernel
theorem dX5_firstSentOf_4 : decode cX5_firstSentOf 4 = .ok (.iload_n 1, 1) := by decide +kernel
theorem dX5_firstSentOf_5 : decode cX5_firstSentOf 5 = .ok (.iconst (-1), 1) := by decide +kernel
theorem dX5_firstSentOf_6 : decode cX5_firstSentOf 6 = .ok (.invokevirtual 252, 3) := by decide +kernel
theorem dX5_firstSentOf_9 : decode cX5_firstSentOf 9 = .ok (.istore_n 2, 1) := by decide +kernel
theorem dX5_firstSentOf_10 : decode cX5_firstSentOf 10 = .ok (.iconst 0, 1) := by decide +kernel
theorem dX5_firstSentOf_11 : decode cX5_firstSentOf 11 = .ok (.istore_n 3, 1) := by decide +kernel
theorem dX5_firstSentOf_12 : decode cX5_firstSentOf 12 = .ok (.iload_n 3, 1) := by decide +kernel
theorem dX5_firstSentOf_13 : decode cX5_firstSentOf 13 = .ok (.aload_n 0, 1) := by decide +kernel
theorem dX5_firstSentOf_14 : decode cX5_firstSentOf 14 = .ok (.getfield 49, 3) := by decide +kernel
theorem dX5_firstSentOf_17 : decode cX5_firstSentOf 17 = .ok (.if_icmp .ge 39, 3) := by decide +kernel
theorem dX5_firstSentOf_20 : decode cX5_firstSentOf 20 = .ok (.aload_n 0, 1) := by decide +kernel
theorem dX5_firstSentOf_21 : decode cX5_firstSentOf 21 = .ok (.getfield 11, 3) := by decide +kernel
theorem dX5_firstSentOf_24 : decode cX5_firstSentOf 24 = .ok (.iload_n 3, 1) := by decide +kernel
theorem dX5_firstSentOf_25 : decode cX5_firstSentOf 25 = .ok (.aaload, 1) := by decide +kernel
theorem dX5_firstSentOf_26 : decode cX5_firstSentOf 26 = .ok (.getfield 73, 3) := by decide +kernel
theorem dX5_firstSentOf_29 : decode cX5_firstSentOf 29 = .ok (.iload_n 1, 1) := by decide +kernel
theorem dX5_firstSentOf_30 : decode cX5_firstSentOf 30 = .ok (.iload_n 2, 1) := by decide +kernel
theorem dX5_firstSentOf_31 : decode cX5_firstSentOf 31 = .ok (.invokevirtual 252, 3) := by decide +kernel
theorem dX5_firstSentOf_34 : decode cX5_firstSentOf 34 = .ok (.istore_n 2, 1) := by decide +kernel
theorem dX5_firstSentOf_35 : decode cX5_firstSentOf 35 = .ok (.aload_n 0, 1) := by decide +kernel
theorem dX5_firstSentOf_36 : decode cX5_firstSentOf 36 = .ok (.getfield 11, 3) := by decide +kernel
theorem dX5_firstSentOf_39 : decode cX5_firstSentOf 39 = .ok (.iload_n 3, 1) := by decide +kernel
theorem dX5_firstSentOf_40 : decode cX5_firstSentOf 40 = .ok (.aaload, 1) := by decide +kernel
theorem dX5_firstSentOf_41 : decode cX5_firstSentOf 41 = .ok (.getfield 80, 3) := by decide +kernel
theorem dX5_firstSentOf_44 : decode cX5_firstSentOf 44 = .ok (.iload_n 1, 1) := by decide +kernel
theorem dX5_firstSentOf_45 : decode cX5_firstSentOf 45 = .ok (.iload_n 2, 1) := by decide +kernel
theorem dX5_firstSentOf_46 : decode cX5_firstSentOf 46 = .ok (.invokevirtual 252, 3) := by decide +kernel
theorem dX5_firstSentOf_49 : decode cX5_firstSentOf 49 = .ok (.istore_n 2, 1) := by decide +kernel
theorem dX5_firstSentOf_50 : decode cX5_firstSentOf 50 = .ok (.iinc 3 1, 3) := by decide +kernel
theorem dX5_firstSentOf_53 : decode cX5_firstSentOf 53 = .ok (.goto (-41), 3) := by decide +kernel
theorem dX5_firstSentOf_56 : decode cX5_firstSentOf 56 = .ok (.iload_n 2, 1) := by decide +kernel
theorem dX5_firstSentOf_57 : decode cX5_firstSentOf 57 = .ok (.ireturn, 1) := by decide +kernel
theorem dX5_longestRow_0 : decode cX5_longestRow 0 = .ok (.iconst 0, 1) := by decide +kernel
theorem dX5_longestRow_1 : decode cX5_longestRow 1 = .ok (.istore_n 1, 1) := by decide +kernel
theorem dX5_longestRow_2 : decode cX5_longestRow 2 = .ok (.iconst 0, 1) := by decide +kernel
theorem dX5_longestRow_3 : decode cX5_longestRow 3 = .ok (.istore_n 2, 1) := by decide +kernel
theorem dX5_longestRow_4 : decode cX5_longestRow 4 = .ok (.iload_n 2, 1) := by decide +kernel
theorem dX5_longestRow_5 : decode cX5_longestRow 5 = .ok (.aload_n 0, 1) := by decide +kernel
theorem dX5_longestRow_6 : decode cX5_longestRow 6 = .ok (.getfield 49, 3) := by decide +kernel
theorem dX5_longestRow_9 : decode cX5_longestRow 9 = .ok (.if_icmp .ge 26, 3) := by decide +kernel
theorem dX5_longestRow_12 : decode cX5_longestRow 12 = .ok (.iload_n 1, 1) := by decide +kernel
theorem dX5_longestRow_13 : decode cX5_longestRow 13 = .ok (.aload_n 0, 1) := by decide +kernel
theorem dX5_longestRow_14 : decode cX5_longestRow 14 = .ok (.getfield 11, 3) := by decide +kernel
theorem dX5_longestRow_17 : decode cX5_longestRow 17 = .ok (.iload_n 2, 1) := by decide +kernel
theorem dX5_longestRow_18 : decode cX5_longestRow 18 = .ok (.aaload, 1) := by decide +kernel
theorem dX5_longestRow_19 : decode cX5_longestRow 19 = .ok (.getfield 73, 3) := by decide +kernel
theorem dX5_longestRow_22 : decode cX5_longestRow 22 = .ok (.getfield 163, 3) := by decide +kernel
theorem dX5_longestRow_25 : decode cX5_longestRow 25 = .ok (.invokestatic 255, 3) := by decide +kernel
theorem dX5_longestRow_28 : decode cX5_longestRow 28 = .ok (.istore_n 1, 1) := by decide +kernel
theorem dX5_longestRow_29 : decode cX5_longestRow 29 = .ok (.iinc 2 1, 3) := by decide +kernel
theorem dX5_longestRow_32 : decode cX5_longestRow 32 = .ok (.goto (-28), 3) := by decide +kernel
theorem dX5_longestRow_35 : decode cX5_longestRow 35 = .ok (.iload_n 1, 1) := by decide +kernel
theorem dX5_longestRow_36 : decode cX5_longestRow 36 = .ok (.ireturn, 1) := by decide +kernel
theorem dX5_doneInAll_0 : decode cX5_doneInAll 0 = .ok (.iconst 0, 1) := by decide +kernel
theorem dX5_doneInAll_1 : decode cX5_doneInAll 1 = .ok (.istore_n 1, 1) := by decide +kernel
theorem dX5_doneInAll_2 : decode cX5_doneInAll 2 = .ok (.iconst 0, 1) := by decide +kernel
theorem dX5_doneInAll_3 : decode cX5_doneInAll 3 = .ok (.istore_n 2, 1) := by decide +kernel
theorem dX5_doneInAll_4 : decode cX5_doneInAll 4 = .ok (.iload_n 2, 1) := by decide +kernel
theorem dX5_doneInAll_5 : decode cX5_doneInAll 5 = .ok (.aload_n 0, 1) := by decide +kernel
theorem dX5_doneInAll_6 : decode cX5_doneInAll 6 = .ok (.getfield 53, 3) := by decide +kernel
theorem dX5_doneInAll_9 : decode cX5_doneInAll 9 = .ok (.if_icmp .ge 21, 3) := by decide +kernel
theorem dX5_doneInAll_12 : decode cX5_doneInAll 12 = .ok (.iload_n 1, 1) := by decide +kernel
theorem dX5_doneInAll_13 : decode cX5_doneInAll 13 = .ok (.aload_n 0, 1) := by decide +kernel
theorem dX5_doneInAll_14 : decode cX5_doneInAll 14 = .ok (.getfield 19, 3) := by decide +kernel
theorem dX5_doneInAll_17 : decode cX5_doneInAll 17 = .ok (.iload_n 2, 1) := by decide +kernel
theorem dX5_doneInAll_18 : decode cX5_doneInAll 18 = .ok (.aaload, 1) := by decide +kernel
theorem dX5_doneInAll_19 : decode cX5_doneInAll 19 = .ok (.getfield 258, 3) := by decide +kernel
theorem dX5_doneInAll_22 : decode cX5_doneInAll 22 = .ok (.iadd, 1) := by decide +kernel
theorem dX5_doneInAll_23 : decode cX5_doneInAll 23 = .ok (.istore_n 1, 1) := by decide +kernel
theorem dX5_doneInAll_24 : decode cX5_doneInAll 24 = .ok (.iinc 2 1, 3) := by decide +kernel
theorem dX5_doneInAll_27 : decode cX5_doneInAll 27 = .ok (.goto (-23), 3) := by decide +kernel
theorem dX5_doneInAll_30 : decode cX5_doneInAll 30 = .ok (.iload_n 1, 1) := by decide +kernel
theorem dX5_doneInAll_31 : decode cX5_doneInAll 31 = .ok (.ireturn, 1) := by decide +kernel
theorem dX5_lostInAll_0 : decode cX5_lostInAll 0 = .ok (.iconst 0, 1) := by decide +kernel
theorem dX5_lostInAll_1 : decode cX5_lostInAll 1 = .ok (.istore_n 1, 1) := by decide +kernel
theorem dX5_lostInAll_2 : decode cX5_lostInAll 2 = .ok (.iconst 0, 1) := by decide +kernel
theorem dX5_lostInAll_3 : decode cX5_lostInAll 3 = .ok (.istore_n 2, 1) := by decide +kernel
theorem dX5_lostInAll_4 : decode cX5_lostInAll 4 = .ok (.iload_n 2, 1) := by decide +kernel
theorem dX5_lostInAll_5 : decode cX5_lostInAll 5 = .ok (.aload_n 0, 1) := by decide +kernel
theorem dX5_lostInAll_6 : decode cX5_lostInAll 6 = .ok (.getfield 53, 3) := by decide +kernel
theorem dX5_lostInAll_9 : decode cX5_lostInAll 9 = .ok (.if_icmp .ge 21, 3) := by decide +kernel
theorem dX5_lostInAll_12 : decode cX5_lostInAll 12 = .ok (.iload_n 1, 1) := by decide +kernel
theorem dX5_lostInAll_13 : decode cX5_lostInAll 13 = .ok (.aload_n 0, 1) := by decide +kernel
theorem dX5_lostInAll_14 : decode cX5_lostInAll 14 = .ok (.getfield 19, 3) := by decide +kernel
theorem dX5_lostInAll_17 : decode cX5_lostInAll 17 = .ok (.iload_n 2, 1) := by decide +kernel
theorem dX5_lostInAll_18 : decode cX5_lostInAll 18 = .ok (.aaload, 1) := by decide +kernel
theorem dX5_lostInAll_19 : decode cX5_lostInAll 19 = .ok (.getfield 261, 3) := by decide +kernel
theorem dX5_lostInAll_22 : decode cX5_lostInAll 22 = .ok (.iadd, 1) := by decide +kernel
theorem dX5_lostInAll_23 : decode cX5_lostInAll 23 = .ok (.istore_n 1, 1) := by decide +kernel
theorem dX5_lostInAll_24 : decode cX5_lostInAll 24 = .ok (.iinc 2 1, 3) := by decide +kernel
theorem dX5_lostInAll_27 : decode cX5_lostInAll 27 = .ok (.goto (-23), 3) := by decide +kernel
theorem dX5_lostInAll_30 : decode cX5_lostInAll 30 = .ok (.iload_n 1, 1) := by decide +kernel
theorem dX5_lostInAll_31 : decode cX5_lostInAll 31 = .ok (.ireturn, 1) := by decide +kernel
theorem dX5_evenness_0 : decode cX5_evenness 0 = .ok (.lconst 0, 1) := by decide +kernel
theorem dX5_evenness_1 : decode cX5_evenness 1 = .ok (.lstore_n 1, 1) := by decide +kernel
theorem dX5_evenness_2 : decode cX5_evenness 2 = .ok (.lconst 0, 1) := by decide +kernel
theorem dX5_evenness_3 : decode cX5_evenness 3 = .ok (.lstore_n 3, 1) := by decide +kernel
theorem dX5_evenness_4 : decode cX5_evenness 4 = .ok (.lconst 0, 1) := by decide +kernel
theorem dX5_evenness_5 : decode cX5_evenness 5 = .ok (.lstore 5, 2) := by decide +kernel
theorem dX5_evenness_7 : decode cX5_evenness 7 = .ok (.iconst 0, 1) := by decide +kernel
theorem dX5_evenness_8 : decode cX5_evenness 8 = .ok (.istore 7, 2) := by decide +kernel
theorem dX5_evenness_10 : decode cX5_evenness 10 = .ok (.iload 7, 2) := by decide +kernel
theorem dX5_evenness_12 : decode cX5_evenness 12 = .ok (.aload_n 0, 1) := by decide +kernel
theorem dX5_evenness_13 : decode cX5_evenness 13 = .ok (.getfield 53, 3) := by decide +kernel
theorem dX5_evenness_16 : decode cX5_evenness 16 = .ok (.if_icmp .ge 54, 3) := by decide +kernel
theorem dX5_evenness_19 : decode cX5_evenness 19 = .ok (.aload_n 0, 1) := by decide +kernel
theorem dX5_evenness_20 : decode cX5_evenness 20 = .ok (.getfield 19, 3) := by decide +kernel
theorem dX5_evenness_23 : decode cX5_evenness 23 = .ok (.iload 7, 2) := by decide +kernel
theorem dX5_evenness_25 : decode cX5_evenness 25 = .ok (.aaload, 1) := by decide +kernel
theorem dX5_evenness_26 : decode cX5_evenness 26 = .ok (.getfield 263, 3) := by decide +kernel
theorem dX5_evenness_29 : decode cX5_evenness 29 = .ok (.ifCond .eq 35, 3) := by decide +kernel
theorem dX5_evenness_32 : decode cX5_evenness 32 = .ok (.aload_n 0, 1) := by decide +kernel
theorem dX5_evenness_33 : decode cX5_evenness 33 = .ok (.getfield 19, 3) := by decide +kernel
theorem dX5_evenness_36 : decode cX5_evenness 36 = .ok (.iload 7, 2) := by decide +kernel
theorem dX5_evenness_38 : decode cX5_evenness 38 = .ok (.aaload, 1) := by decide +kernel
theorem dX5_evenness_39 : decode cX5_evenness 39 = .ok (.getfield 237, 3) := by decide +kernel
theorem dX5_evenness_42 : decode cX5_evenness 42 = .ok (.i2l, 1) := by decide +kernel
theorem dX5_evenness_43 : decode cX5_evenness 43 = .ok (.lstore 8, 2) := by decide +kernel
theorem dX5_evenness_45 : decode cX5_evenness 45 = .ok (.lload_n 1, 1) := by decide +kernel
theorem dX5_evenness_46 : decode cX5_evenness 46 = .ok (.lconst 1, 1) := by decide +kernel
theorem dX5_evenness_47 : decode cX5_evenness 47 = .ok (.ladd, 1) := by decide +kernel
theorem dX5_evenness_48 : decode cX5_evenness 48 = .ok (.lstore_n 1, 1) := by decide +kernel
theorem dX5_evenness_49 : decode cX5_evenness 49 = .ok (.lload_n 3, 1) := by decide +kernel
theorem dX5_evenness_50 : decode cX5_evenness 50 = .ok (.lload 8, 2) := by decide +kernel
theorem dX5_evenness_52 : decode cX5_evenness 52 = .ok (.ladd, 1) := by decide +kernel
theorem dX5_evenness_53 : decode cX5_evenness 53 = .ok (.lstore_n 3, 1) := by decide +kernel
theorem dX5_evenness_54 : decode cX5_evenness 54 = .ok (.lload 5, 2) := by decide +kernel
theorem dX5_evenness_56 : decode cX5_evenness 56 = .ok (.lload 8, 2) := by decide +kernel
theorem dX5_evenness_58 : decode cX5_evenness 58 = .ok (.lload 8, 2) := by decide +kernel
theorem dX5_evenness_60 : decode cX5_evenness 60 = .ok (.lmul, 1) := by decide +kernel
theorem dX5_evenness_61 : decode cX5_evenness 61 = .ok (.ladd, 1) := by decide +kernel
theorem dX5_evenness_62 : decode cX5_evenness 62 = .ok (.lstore 5, 2) := by decide +kernel
theorem dX5_evenness_64 : decode cX5_evenness 64 = .ok (.iinc 7 1, 3) := by decide +kernel
theorem dX5_evenness_67 : decode cX5_evenness 67 = .ok (.goto (-57), 3) := by decide +kernel
theorem dX5_evenness_70 : decode cX5_evenness 70 = .ok (.lload_n 1, 1) := by decide +kernel
theorem dX5_evenness_71 : decode cX5_evenness 71 = .ok (.lload 5, 2) := by decide +kernel
theorem dX5_evenness_73 : decode cX5_evenness 73 = .ok (.lmul, 1) := by decide +kernel
theorem dX5_evenness_74 : decode cX5_evenness 74 = .ok (.lstore 7, 2) := by decide +kernel
theorem dX5_evenness_76 : decode cX5_evenness 76 = .ok (.lload 7, 2) := by decide +kernel
theorem dX5_evenness_78 : decode cX5_evenness 78 = .ok (.lconst 0, 1) := by decide +kernel
theorem dX5_evenness_79 : decode cX5_evenness 79 = .ok (.lcmp, 1) := by decide +kernel
theorem dX5_evenness_80 : decode cX5_evenness 80 = .ok (.ifCond .le 17, 3) := by decide +kernel
theorem dX5_evenness_83 : decode cX5_evenness 83 = .ok (.lload_n 3, 1) := by decide +kernel
theorem dX5_evenness_84 : decode cX5_evenness 84 = .ok (.lload_n 3, 1) := by decide +kernel
theorem dX5_evenness_85 : decode cX5_evenness 85 = .ok (.lmul, 1) := by decide +kernel
theorem dX5_evenness_86 : decode cX5_evenness 86 = .ok (.ldc2_w 266, 3) := by decide +kernel
theorem dX5_evenness_89 : decode cX5_evenness 89 = .ok (.lmul, 1) := by decide +kernel
theorem dX5_evenness_90 : decode cX5_evenness 90 = .ok (.lload 7, 2) := by decide +kernel
theorem dX5_evenness_92 : decode cX5_evenness 92 = .ok (.ldiv, 1) := by decide +kernel
theorem dX5_evenness_93 : decode cX5_evenness 93 = .ok (.l2i, 1) := by decide +kernel
theorem dX5_evenness_94 : decode cX5_evenness 94 = .ok (.goto 6, 3) := by decide +kernel
theorem dX5_evenness_97 : decode cX5_evenness 97 = .ok (.sipush 1000, 3) := by decide +kernel
theorem dX5_evenness_100 : decode cX5_evenness 100 = .ok (.ireturn, 1) := by decide +kernel
theorem dX5_windowGap_0 : decode cX5_windowGap 0 = .ok (.iconst (-1), 1) := by decide +kernel
theorem dX5_windowGap_1 : decode cX5_windowGap 1 = .ok (.istore_n 1, 1) := by decide +kernel
theorem dX5_windowGap_2 : decode cX5_windowGap 2 = .ok (.iconst (-1), 1) := by decide +kernel
theorem dX5_windowGap_3 : decode cX5_windowGap 3 = .ok (.istore_n 2, 1) := by decide +kernel
theorem dX5_windowGap_4 : decode cX5_windowGap 4 = .ok (.iconst 0, 1) := by decide +kernel
theorem dX5_windowGap_5 : decode cX5_windowGap 5 = .ok (.istore_n 3, 1) := by decide +kernel
theorem dX5_windowGap_6 : decode cX5_windowGap 6 = .ok (.iload_n 3, 1) := by decide +kernel
theorem dX5_windowGap_7 : decode cX5_windowGap 7 = .ok (.aload_n 0, 1) := by decide +kernel
theorem dX5_windowGap_8 : decode cX5_windowGap 8 = .ok (.getfield 53, 3) := by decide +kernel
theorem dX5_windowGap_11 : decode cX5_windowGap 11 = .ok (.if_icmp .ge 56, 3) := by decide +kernel
theorem dX5_windowGap_14 : decode cX5_windowGap 14 = .ok (.aload_n 0, 1) := by decide +kernel
theorem dX5_windowGap_15 : decode cX5_windowGap 15 = .ok (.getfield 19, 3) := by decide +kernel
theorem dX5_windowGap_18 : decode cX5_windowGap 18 = .ok (.iload_n 3, 1) := by decide +kernel
theorem dX5_windowGap_19 : decode cX5_windowGap 19 = .ok (.aaload, 1) := by decide +kernel
theorem dX5_windowGap_20 : decode cX5_windowGap 20 = .ok (.getfield 263, 3) := by decide +kernel
theorem dX5_windowGap_23 : decode cX5_windowGap 23 = .ok (.ifCond .eq 38, 3) := by decide +kernel
theorem dX5_windowGap_26 : decode cX5_windowGap 26 = .ok (.aload_n 0, 1) := by decide +kernel
theorem dX5_windowGap_27 : decode cX5_windowGap 27 = .ok (.getfield 19, 3) := by decide +kernel
theorem dX5_windowGap_30 : decode cX5_windowGap 30 = .ok (.iload_n 3, 1) := by decide +kernel
theorem dX5_windowGap_31 : decode cX5_windowGap 31 = .ok (.aaload, 1) := by decide +kernel
theorem dX5_windowGap_32 : decode cX5_windowGap 32 = .ok (.getfield 237, 3) := by decide +kernel
theorem dX5_windowGap_35 : decode cX5_windowGap 35 = .ok (.istore 4, 2) := by decide +kernel
theorem dX5_windowGap_37 : decode cX5_windowGap 37 = .ok (.iload_n 1, 1) := by decide +kernel
theorem dX5_windowGap_38 : decode cX5_windowGap 38 = .ok (.iload 4, 2) := by decide +kernel
theorem dX5_windowGap_40 : decode cX5_windowGap 40 = .ok (.invokestatic 255, 3) := by decide +kernel
theorem dX5_windowGap_43 : decode cX5_windowGap 43 = .ok (.istore_n 1, 1) := by decide +kernel
theorem dX5_windowGap_44 : decode cX5_windowGap 44 = .ok (.iload_n 2, 1) := by decide +kernel
theorem dX5_windowGap_45 : decode cX5_windowGap 45 = .ok (.iconst (-1), 1) := by decide +kernel
theorem dX5_windowGap_46 : decode cX5_windowGap 46 = .ok (.if_icmp .ne 8, 3) := by decide +kernel
theorem dX5_windowGap_49 : decode cX5_windowGap 49 = .ok (.iload 4, 2) := by decide +kernel
theorem dX5_windowGap_51 : decode cX5_windowGap 51 = .ok (.goto 9, 3) := by decide +kernel
theorem dX5_windowGap_54 : decode cX5_windowGap 54 = .ok (.iload_n 2, 1) := by decide +kernel
theorem dX5_windowGap_55 : decode cX5_windowGap 55 = .ok (.iload 4, 2) := by decide +kernel
theorem dX5_windowGap_57 : decode cX5_windowGap 57 = .ok (.invokestatic 268, 3) := by decide +kernel
theorem dX5_windowGap_60 : decode cX5_windowGap 60 = .ok (.istore_n 2, 1) := by decide +kernel
theorem dX5_windowGap_61 : decode cX5_windowGap 61 = .ok (.iinc 3 1, 3) := by decide +kernel
theorem dX5_windowGap_64 : decode cX5_windowGap 64 = .ok (.goto (-58), 3) := by decide +kernel
theorem dX5_windowGap_67 : decode cX5_windowGap 67 = .ok (.iload_n 1, 1) := by decide +kernel
theorem dX5_windowGap_68 : decode cX5_windowGap 68 = .ok (.iload_n 2, 1) := by decide +kernel
theorem dX5_windowGap_69 : decode cX5_windowGap 69 = .ok (.isub, 1) := by decide +kernel
theorem dX5_windowGap_70 : decode cX5_windowGap 70 = .ok (.ireturn, 1) := by decide +kernel
theorem dX5_topFlow_0 : decode cX5_topFlow 0 = .ok (.iconst 0, 1) := by decide +kernel
theorem dX5_topFlow_1 : decode cX5_topFlow 1 = .ok (.istore_n 2, 1) := by decide +kernel
theorem dX5_topFlow_2 : decode cX5_topFlow 2 = .ok (.iconst 1, 1) := by decide +kernel
theorem dX5_topFlow_3 : decode cX5_topFlow 3 = .ok (.istore_n 3, 1) := by decide +kernel
theorem dX5_topFlow_4 : decode cX5_topFlow 4 = .ok (.iload_n 3, 1) := by decide +kernel
theorem dX5_topFlow_5 : decode cX5_topFlow 5 = .ok (.aload_n 0, 1) := by decide +kernel
theorem dX5_topFlow_6 : decode cX5_topFlow 6 = .ok (.getfield 53, 3) := by decide +kernel
theorem dX5_topFlow_9 : decode cX5_topFlow 9 = .ok (.if_icmp .ge 26, 3) := by decide +kernel
theorem dX5_topFlow_12 : decode cX5_topFlow 12 = .ok (.aload_n 0, 1) := by decide +kernel
theorem dX5_topFlow_13 : decode cX5_topFlow 13 = .ok (.iload_n 3, 1) := by decide +kernel
theorem dX5_topFlow_14 : decode cX5_topFlow 14 = .ok (.iload_n 1, 1) := by decide +kernel
theorem dX5_topFlow_15 : decode cX5_topFlow 15 = .ok (.invokevirtual 271, 3) := by decide +kernel
theorem dX5_topFlow_18 : decode cX5_topFlow 18 = .ok (.aload_n 0, 1) := by decide +kernel
theorem dX5_topFlow_19 : decode cX5_topFlow 19 = .ok (.iload_n 2, 1) := by decide +kernel
theorem dX5_topFlow_20 : decode cX5_topFlow 20 = .ok (.iload_n 1, 1) := by decide +kernel
theorem dX5_topFlow_21 : decode cX5_topFlow 21 = .ok (.invokevirtual 271, 3) := by decide +kernel
theorem dX5_topFlow_24 : decode cX5_topFlow 24 = .ok (.if_icmp .le 5, 3) := by decide +kernel
theorem dX5_topFlow_27 : decode cX5_topFlow 27 = .ok (.iload_n 3, 1) := by decide +kernel
theorem dX5_topFlow_28 : decode cX5_topFlow 28 = .ok (.istore_n 2, 1) := by decide +kernel
theorem dX5_topFlow_29 : decode cX5_topFlow 29 = .ok (.iinc 3 1, 3) := by decide +kernel
theorem dX5_topFlow_32 : decode cX5_topFlow 32 = .ok (.goto (-28), 3) := by decide +kernel
theorem dX5_topFlow_35 : decode cX5_topFlow 35 = .ok (.iload_n 2, 1) := by decide +kernel
theorem dX5_topFlow_36 : decode cX5_topFlow 36 = .ok (.ireturn, 1) := by decide +kernel
theorem dX5_rank_0 : decode cX5_rank 0 = .ok (.aload_n 0, 1) := by decide +kernel
theorem dX5_rank_1 : decode cX5_rank 1 = .ok (.iload_n 1, 1) := by decide +kernel
theorem dX5_rank_2 : decode cX5_rank 2 = .ok (.invokevirtual 175, 3) := by decide +kernel
theorem dX5_rank_5 : decode cX5_rank 5 = .ok (.astore_n 3, 1) := by decide +kernel
theorem dX5_rank_6 : decode cX5_rank 6 = .ok (.aload_n 3, 1) := by decide +kernel
theorem dX5_rank_7 : decode cX5_rank 7 = .ok (.ifnonnull 5, 3) := by decide +kernel
theorem dX5_rank_10 : decode cX5_rank 10 = .ok (.iconst (-1), 1) := by decide +kernel
theorem dX5_rank_11 : decode cX5_rank 11 = .ok (.ireturn, 1) := by decide +kernel
theorem dX5_rank_12 : decode cX5_rank 12 = .ok (.iload_n 2, 1) := by decide +kernel
theorem dX5_rank_13 : decode cX5_rank 13 = .ok (.ifCond .ne 8, 3) := by decide +kernel
theorem dX5_rank_16 : decode cX5_rank 16 = .ok (.aload_n 3, 1) := by decide +kernel
theorem dX5_rank_17 : decode cX5_rank 17 = .ok (.getfield 237, 3) := by decide +kernel
theorem dX5_rank_20 : decode cX5_rank 20 = .ok (.ireturn, 1) := by decide +kernel
theorem dX5_rank_21 : decode cX5_rank 21 = .ok (.iload_n 2, 1) := by decide +kernel
theorem dX5_rank_22 : decode cX5_rank 22 = .ok (.iconst 1, 1) := by decide +kernel
theorem dX5_rank_23 : decode cX5_rank 23 = .ok (.if_icmp .ne 10, 3) := by decide +kernel
theorem dX5_rank_26 : decode cX5_rank 26 = .ok (.aload_n 3, 1) := by decide +kernel
theorem dX5_rank_27 : decode cX5_rank 27 = .ok (.getfield 258, 3) := by decide +kernel
theorem dX5_rank_30 : decode cX5_rank 30 = .ok (.goto 7, 3) := by decide +kernel
theorem dX5_rank_33 : decode cX5_rank 33 = .ok (.aload_n 3, 1) := by decide +kernel
theorem dX5_rank_34 : decode cX5_rank 34 = .ok (.getfield 261, 3) := by decide +kernel
theorem dX5_rank_37 : decode cX5_rank 37 = .ok (.ireturn, 1) := by decide +kernel
theorem dX6_init_0 : decode cX6_init 0 = .ok (.aload_n 0, 1) := by decide +kernel
theorem dX6_init_1 : decode cX6_init 1 = .ok (.invokespecial 3, 3) := by decide +kernel
theorem dX6_init_4 : decode cX6_init 4 = .ok (.return_, 1) := by decide +kernel
theorem dX6_begin_0 : decode cX6_begin 0 = .ok (.aload_n 0, 1) := by decide +kernel
theorem dX6_begin_1 : decode cX6_begin 1 = .ok (.iload_n 1, 1) := by decide +kernel
theorem dX6_begin_2 : decode cX6_begin 2 = .ok (.putfield 9, 3) := by decide +kernel
theorem dX6_begin_5 : decode cX6_begin 5 = .ok (.aload_n 0, 1) := by decide +kernel
theorem dX6_begin_6 : decode cX6_begin 6 = .ok (.iload_n 2, 1) := by decide +kernel
theorem dX6_begin_7 : decode cX6_begin 7 = .ok (.putfield 15, 3) := by decide +kernel
theorem dX6_begin_10 : decode cX6_begin 10 = .ok (.aload_n 0, 1) := by decide +kernel
theorem dX6_begin_11 : decode cX6_begin 11 = .ok (.iconst 0, 1) := by decide +kernel
theorem dX6_begin_12 : decode cX6_begin 12 = .ok (.putfield 18, 3) := by decide +kernel
theorem dX6_begin_15 : decode cX6_begin 15 = .ok (.aload_n 0, 1) := by decide +kernel
theorem dX6_begin_16 : decode cX6_begin 16 = .ok (.aload_n 3, 1) := by decide +kernel
theorem dX6_begin_17 : decode cX6_begin 17 = .ok (.getfield 21, 3) := by decide +kernel
theorem dX6_begin_20 : decode cX6_begin 20 = .ok (.putfield 26, 3) := by decide +kernel
theorem dX6_begin_23 : decode cX6_begin 23 = .ok (.aload_n 0, 1) := by decide +kernel
theorem dX6_begin_24 : decode cX6_begin 24 = .ok (.aload_n 3, 1) := by decide +kernel
theorem dX6_begin_25 : decode cX6_begin 25 = .ok (.getfield 27, 3) := by decide +kernel
theorem dX6_begin_28 : decode cX6_begin 28 = .ok (.iconst 2, 1) := by decide +kernel
theorem dX6_begin_29 : decode cX6_begin 29 = .ok (.if_icmp .ne 12, 3) := by decide +kernel
theorem dX6_begin_32 : decode cX6_begin 32 = .ok (.iconst 3, 1) := by decide +kernel
theorem dX6_begin_33 : decode cX6_begin 33 = .ok (.aload_n 3, 1) := by decide +kernel
theorem dX6_begin_34 : decode cX6_begin 34 = .ok (.getfield 30, 3) := by decide +kernel
theorem dX6_begin_37 : decode cX6_begin 37 = .ok (.imul, 1) := by decide +kernel
theorem dX6_begin_38 : decode cX6_begin 38 = .ok (.goto 7, 3) := by decide +kernel
theorem dX6_begin_41 : decode cX6_begin 41 = .ok (.aload_n 3, 1) := by decide +kernel
theorem dX6_begin_42 : decode cX6_begin 42 = .ok (.getfield 30, 3) := by decide +kernel
theorem dX6_begin_45 : decode cX6_begin 45 = .ok (.putfield 33, 3) := by decide +kernel
theorem dX6_begin_48 : decode cX6_begin 48 = .ok (.aload_n 0, 1) := by decide +kernel
theorem dX6_begin_49 : decode cX6_begin 49 = .ok (.aload_n 0, 1) := by decide +kernel
theorem dX6_begin_50 : decode cX6_begin 50 = .ok (.getfield 26, 3) := by decide +kernel
theorem dX6_begin_53 : decode cX6_begin 53 = .ok (.ifCond .le 25, 3) := by decide +kernel
theorem dX6_begin_56 : decode cX6_begin 56 = .ok (.lconst 1, 1) := by decide +kernel
theorem dX6_begin_57 : decode cX6_begin 57 = .ok (.ldc2_w 34, 3) := by decide +kernel
theorem dX6_begin_60 : decode cX6_begin 60 = .ok (.aload_n 0, 1) := by decide +kernel
theorem dX6_begin_61 : decode cX6_begin 61 = .ok (.getfield 33, 3) := by decide +kernel
theorem dX6_begin_64 : decode cX6_begin 64 = .ok (.i2l, 1) := by decide +kernel
theorem dX6_begin_65 : decode cX6_begin 65 = .ok (.lmul, 1) := by decide +kernel
theorem dX6_begin_66 : decode cX6_begin 66 = .ok (.aload_n 0, 1) := by decide +kernel
theorem dX6_begin_67 : decode cX6_begin 67 = .ok (.getfield 26, 3) := by decide +kernel
theorem dX6_begin_70 : decode cX6_begin 70 = .ok (.i2l, 1) := by decide +kernel
theorem dX6_begin_71 : decode cX6_begin 71 = .ok (.ldiv, 1) := by decide +kernel
theorem dX6_begin_72 : decode cX6_begin 72 = .ok (.invokestatic 36, 3) := by decide +kernel
theorem dX6_begin_75 : decode cX6_begin 75 = .ok (.goto 4, 3) := by decide +kernel
theorem dX6_begin_78 : decode cX6_begin 78 = .ok (.lconst 1, 1) := by decide +kernel
theorem dX6_begin_79 : decode cX6_begin 79 = .ok (.putfield 42, 3) := by decide +kernel
theorem dX6_begin_82 : decode cX6_begin 82 = .ok (.aload_n 0, 1) := by decide +kernel
theorem dX6_begin_83 : decode cX6_begin 83 = .ok (.sipush 1000, 3) := by decide +kernel
theorem dX6_begin_86 : decode cX6_begin 86 = .ok (.putfield 46, 3) := by decide +kernel
theorem dX6_begin_89 : decode cX6_begin 89 = .ok (.aload_n 0, 1) := by decide +kernel
theorem dX6_begin_90 : decode cX6_begin 90 = .ok (.iconst 0, 1) := by decide +kernel
theorem dX6_begin_91 : decode cX6_begin 91 = .ok (.putfield 49, 3) := by decide +kernel
theorem dX6_begin_94 : decode cX6_begin 94 = .ok (.aload_n 0, 1) := by decide +kernel
theorem dX6_begin_95 : decode cX6_begin 95 = .ok (.iconst 0, 1) := by decide +kernel
theorem dX6_begin_96 : decode cX6_begin 96 = .ok (.putfield 52, 3) := by decide +kernel
theorem dX6_begin_99 : decode cX6_begin 99 = .ok (.return_, 1) := by decide +kernel
theorem dX6_copyFrom_0 : decode cX6_copyFrom 0 = .ok (.aload_n 0, 1) := by decide +kernel
theorem dX6_copyFrom_1 : decode cX6_copyFrom 1 = .ok (.aload_n 1, 1) := by decide +kernel
theorem dX6_copyFrom_2 : decode cX6_copyFrom 2 = .ok (.getfield 9, 3) := by decide +kernel
theorem dX6_copyFrom_5 : decode cX6_copyFrom 5 = .ok (.putfield 9, 3) := by decide +kernel
theorem dX6_copyFrom_8 : decode cX6_copyFrom 8 = .ok (.aload_n 0, 1) := by decide +kernel
theorem dX6_copyFrom_9 : decode cX6_copyFrom 9 = .ok (.aload_n 1, 1) := by decide +kernel
theorem dX6_copyFrom_10 : decode cX6_copyFrom 10 = .ok (.getfield 15, 3) := by decide +kernel
theorem dX6_copyFrom_13 : decode cX6_copyFrom 13 = .ok (.putfield 15, 3) := by decide +kernel
theorem dX6_copyFrom_16 : decode cX6_copyFrom 16 = .ok (.aload_n 0, 1) := by decide +kernel
theorem dX6_copyFrom_17 : decode cX6_copyFrom 17 = .ok (.aload_n 1, 1) := by decide +kernel
theorem dX6_copyFrom_18 : decode cX6_copyFrom 18 = .ok (.getfield 18, 3) := by decide +kernel
theorem dX6_copyFrom_21 : decode cX6_copyFrom 21 = .ok (.putfield 18, 3) := by decide +kernel
theorem dX6_copyFrom_24 : decode cX6_copyFrom 24 = .ok (.aload_n 0, 1) := by decide +kernel
theorem dX6_copyFrom_25 : decode cX6_copyFrom 25 = .ok (.aload_n 1, 1) := by decide +kernel
theorem dX6_copyFrom_26 : decode cX6_copyFrom 26 = .ok (.getfield 26, 3) := by decide +kernel
theorem dX6_copyFrom_29 : decode cX6_copyFrom 29 = .ok (.putfield 26, 3) := by decide +kernel
theorem dX6_copyFrom_32 : decode cX6_copyFrom 32 = .ok (.aload_n 0, 1) := by decide +kernel
theorem dX6_copyFrom_33 : decode cX6_copyFrom 33 = .ok (.aload_n 1, 1) := by decide +kernel
theorem dX6_copyFrom_34 : decode cX6_copyFrom 34 = .ok (.getfield 33, 3) := by decide +kernel
theorem dX6_copyFrom_37 : decode cX6_copyFrom 37 = .ok (.putfield 33, 3) := by decide +kernel
theorem dX6_copyFrom_40 : decode cX6_copyFrom 40 = .ok (.aload_n 0, 1) := by decide +kernel
theorem dX6_copyFrom_41 : decode cX6_copyFrom 41 = .ok (.aload_n 1, 1) := by decide +kernel
theorem dX6_copyFrom_42 : decode cX6_copyFrom 42 = .ok (.getfield 42, 3) := by decide +kernel
theorem dX6_copyFrom_45 : decode cX6_copyFrom 45 = .ok (.putfield 42, 3) := by decide +kernel
theorem dX6_copyFrom_48 : decode cX6_copyFrom 48 = .ok (.aload_n 0, 1) := by decide +kernel
theorem dX6_copyFrom_49 : decode cX6_copyFrom 49 = .ok (.aload_n 1, 1) := by decide +kernel
theorem dX6_copyFrom_50 : decode cX6_copyFrom 50 = .ok (.getfield 46, 3) := by decide +kernel
theorem dX6_copyFrom_53 : decode cX6_copyFrom 53 = .ok (.putfield 46, 3) := by decide +kernel
theorem dX6_copyFrom_56 : decode cX6_copyFrom 56 = .ok (.aload_n 0, 1) := by decide +kernel
theorem dX6_copyFrom_57 : decode cX6_copyFrom 57 = .ok (.aload_n 1, 1) := by decide +kernel
theorem dX6_copyFrom_58 : decode cX6_copyFrom 58 = .ok (.getfield 49, 3) := by decide +kernel
theorem dX6_copyFrom_61 : decode cX6_copyFrom 61 = .ok (.putfield 49, 3) := by decide +kernel
theorem dX6_copyFrom_64 : decode cX6_copyFrom 64 = .ok (.aload_n 0, 1) := by decide +kernel
theorem dX6_copyFrom_65 : decode cX6_copyFrom 65 = .ok (.aload_n 1, 1) := by decide +kernel
theorem dX6_copyFrom_66 : decode cX6_copyFrom 66 = .ok (.getfield 52, 3) := by decide +kernel
theorem dX6_copyFrom_69 : decode cX6_copyFrom 69 = .ok (.putfield 52, 3) := by decide +kernel
theorem dX6_copyFrom_72 : decode cX6_copyFrom 72 = .ok (.return_, 1) := by decide +kernel
theorem dX6_tell_0 : decode cX6_tell 0 = .ok (.iload_n 1, 1) := by decide +kernel
theorem dX6_tell_1 : decode cX6_tell 1 = .ok (.tableswitch 60 0 4 #[35, 40, 45, 50, 55], 35) := by decide +kernel
theorem dX6_tell_36 : decode cX6_tell 36 = .ok (.aload_n 0, 1) := by decide +kernel
theorem dX6_tell_37 : decode cX6_tell 37 = .ok (.getfield 9, 3) := by decide +kernel
theorem dX6_tell_40 : decode cX6_tell 40 = .ok (.ireturn, 1) := by decide +kernel
theorem dX6_tell_41 : decode cX6_tell 41 = .ok (.aload_n 0, 1) := by decide +kernel
theorem dX6_tell_42 : decode cX6_tell 42 = .ok (.getfield 15, 3) := by decide +kernel
theorem dX6_tell_45 : decode cX6_tell 45 = .ok (.ireturn, 1) := by decide +kernel
theorem dX6_tell_46 : decode cX6_tell 46 = .ok (.aload_n 0, 1) := by decide +kernel
theorem dX6_tell_47 : decode cX6_tell 47 = .ok (.getfield 18, 3) := by decide +kernel
theorem dX6_tell_50 : decode cX6_tell 50 = .ok (.ireturn, 1) := by decide +kernel
theorem dX6_tell_51 : decode cX6_tell 51 = .ok (.aload_n 0, 1) := by decide +kernel
theorem dX6_tell_52 : decode cX6_tell 52 = .ok (.getfield 26, 3) := by decide +kernel
theorem dX6_tell_55 : decode cX6_tell 55 = .ok (.ireturn, 1) := by decide +kernel
theorem dX6_tell_56 : decode cX6_tell 56 = .ok (.aload_n 0, 1) := by decide +kernel
theorem dX6_tell_57 : decode cX6_tell 57 = .ok (.getfield 33, 3) := by decide +kernel
theorem dX6_tell_60 : decode cX6_tell 60 = .ok (.ireturn, 1) := by decide +kernel
theorem dX6_tell_61 : decode cX6_tell 61 = .ok (.aload_n 0, 1) := by decide +kernel
theorem dX6_tell_62 : decode cX6_tell 62 = .ok (.getfield 46, 3) := by decide +kernel
theorem dX6_tell_65 : decode cX6_tell 65 = .ok (.ireturn, 1) := by decide +kernel
theorem dX7_init_0 : decode cX7_init 0 = .ok (.aload_n 0, 1) := by decide +kernel
theorem dX7_init_1 : decode cX7_init 1 = .ok (.invokespecial 1, 3) := by decide +kernel
theorem dX7_init_4 : decode cX7_init 4 = .ok (.return_, 1) := by decide +kernel
theorem dX7_clear_0 : decode cX7_clear 0 = .ok (.aload_n 0, 1) := by decide +kernel
theorem dX7_clear_1 : decode cX7_clear 1 = .ok (.lconst 0, 1) := by decide +kernel
theorem dX7_clear_2 : decode cX7_clear 2 = .ok (.putfield 7, 3) := by decide +kernel
theorem dX7_clear_5 : decode cX7_clear 5 = .ok (.aload_n 0, 1) := by decide +kernel
theorem dX7_clear_6 : decode cX7_clear 6 = .ok (.lconst 0, 1) := by decide +kernel
theorem dX7_clear_7 : decode cX7_clear 7 = .ok (.putfield 13, 3) := by decide +kernel
theorem dX7_clear_10 : decode cX7_clear 10 = .ok (.aload_n 0, 1) := by decide +kernel
theorem dX7_clear_11 : decode cX7_clear 11 = .ok (.lconst 1, 1) := by decide +kernel
theorem dX7_clear_12 : decode cX7_clear 12 = .ok (.putfield 16, 3) := by decide +kernel
theorem dX7_clear_15 : decode cX7_clear 15 = .ok (.aload_n 0, 1) := by decide +kernel
theorem dX7_clear_16 : decode cX7_clear 16 = .ok (.lconst 1, 1) := by decide +kernel
theorem dX7_clear_17 : decode cX7_clear 17 = .ok (.putfield 19, 3) := by decide +kernel
theorem dX7_clear_20 : decode cX7_clear 20 = .ok (.aload_n 0, 1) := by decide +kernel
theorem dX7_clear_21 : decode cX7_clear 21 = .ok (.lconst 0, 1) := by decide +kernel
theorem dX7_clear_22 : decode cX7_clear 22 = .ok (.putfield 22, 3) := by decide +kernel
theorem dX7_clear_25 : decode cX7_clear 25 = .ok (.aload_n 0, 1) := by decide +kernel
theorem dX7_clear_26 : decode cX7_clear 26 = .ok (.lconst 0, 1) := by decide +kernel
theorem dX7_clear_27 : decode cX7_clear 27 = .ok (.putfield 25, 3) := by decide +kernel
theorem dX7_clear_30 : decode cX7_clear 30 = .ok (.return_, 1) := by decide +kernel
theorem dX7_copyFrom_0 : decode cX7_copyFrom 0 = .ok (.aload_n 0, 1) := by decide +kernel
theorem dX7_copyFrom_1 : decode cX7_copyFrom 1 = .ok (.aload_n 1, 1) := by decide +kernel
theorem dX7_copyFrom_2 : decode cX7_copyFrom 2 = .ok (.getfield 7, 3) := by decide +kernel
theorem dX7_copyFrom_5 : decode cX7_copyFrom 5 = .ok (.putfield 7, 3) := by decide +kernel
theorem dX7_copyFrom_8 : decode cX7_copyFrom 8 = .ok (.aload_n 0, 1) := by decide +kernel
theorem dX7_copyFrom_9 : decode cX7_copyFrom 9 = .ok (.aload_n 1, 1) := by decide +kernel
theorem dX7_copyFrom_10 : decode cX7_copyFrom 10 = .ok (.getfield 13, 3) := by decide +kernel
theorem dX7_copyFrom_13 : decode cX7_copyFrom 13 = .ok (.putfield 13, 3) := by decide +kernel
theorem dX7_copyFrom_16 : decode cX7_copyFrom 16 = .ok (.aload_n 0, 1) := by decide +kernel
theorem dX7_copyFrom_17 : decode cX7_copyFrom 17 = .ok (.aload_n 1, 1) := by decide +kernel
theorem dX7_copyFrom_18 : decode cX7_copyFrom 18 = .ok (.getfield 16, 3) := by decide +kernel
theorem dX7_copyFrom_21 : decode cX7_copyFrom 21 = .ok (.putfield 16, 3) := by decide +kernel
theorem dX7_copyFrom_24 : decode cX7_copyFrom 24 = .ok (.aload_n 0, 1) := by decide +kernel
theorem dX7_copyFrom_25 : decode cX7_copyFrom 25 = .ok (.aload_n 1, 1) := by decide +kernel
theorem dX7_copyFrom_26 : decode cX7_copyFrom 26 = .ok (.getfield 19, 3) := by decide +kernel
theorem dX7_copyFrom_29 : decode cX7_copyFrom 29 = .ok (.putfield 19, 3) := by decide +kernel
theorem dX7_copyFrom_32 : decode cX7_copyFrom 32 = .ok (.aload_n 0, 1) := by decide +kernel
theorem dX7_copyFrom_33 : decode cX7_copyFrom 33 = .ok (.aload_n 1, 1) := by decide +kernel
theorem dX7_copyFrom_34 : decode cX7_copyFrom 34 = .ok (.getfield 22, 3) := by decide +kernel
theorem dX7_copyFrom_37 : decode cX7_copyFrom 37 = .ok (.putfield 22, 3) := by decide +kernel
theorem dX7_copyFrom_40 : decode cX7_copyFrom 40 = .ok (.aload_n 0, 1) := by decide +kernel
theorem dX7_copyFrom_41 : decode cX7_copyFrom 41 = .ok (.aload_n 1, 1) := by decide +kernel
theorem dX7_copyFrom_42 : decode cX7_copyFrom 42 = .ok (.getfield 25, 3) := by decide +kernel
theorem dX7_copyFrom_45 : decode cX7_copyFrom 45 = .ok (.putfield 25, 3) := by decide +kernel
theorem dX7_copyFrom_48 : decode cX7_copyFrom 48 = .ok (.return_, 1) := by decide +kernel
theorem dX7_renew_0 : decode cX7_renew 0 = .ok (.ldc2_w 28, 3) := by decide +kernel
theorem dX7_renew_3 : decode cX7_renew 3 = .ok (.lload_n 1, 1) := by decide +kernel
theorem dX7_renew_4 : decode cX7_renew 4 = .ok (.lmul, 1) := by decide +kernel
theorem dX7_renew_5 : decode cX7_renew 5 = .ok (.ldc2_w 30, 3) := by decide +kernel
theorem dX7_renew_8 : decode cX7_renew 8 = .ok (.lload_n 3, 1) := by decide +kernel
theorem dX7_renew_9 : decode cX7_renew 9 = .ok (.lmul, 1) := by decide +kernel
theorem dX7_renew_10 : decode cX7_renew 10 = .ok (.lsub, 1) := by decide +kernel
theorem dX7_renew_11 : decode cX7_renew 11 = .ok (.lstore 9, 2) := by decide +kernel
theorem dX7_renew_13 : decode cX7_renew 13 = .ok (.lconst 0, 1) := by decide +kernel
theorem dX7_renew_14 : decode cX7_renew 14 = .ok (.ldc2_w 32, 3) := by decide +kernel
theorem dX7_renew_17 : decode cX7_renew 17 = .ok (.lload 5, 2) := by decide +kernel
theorem dX7_renew_19 : decode cX7_renew 19 = .ok (.lmul, 1) := by decide +kernel
theorem dX7_renew_20 : decode cX7_renew 20 = .ok (.lload 9, 2) := by decide +kernel
theorem dX7_renew_22 : decode cX7_renew 22 = .ok (.invokestatic 34, 3) := by decide +kernel
theorem dX7_renew_25 : decode cX7_renew 25 = .ok (.lsub, 1) := by decide +kernel
theorem dX7_renew_26 : decode cX7_renew 26 = .ok (.invokestatic 40, 3) := by decide +kernel
theorem dX7_renew_29 : decode cX7_renew 29 = .ok (.lstore 11, 2) := by decide +kernel
theorem dX7_renew_31 : decode cX7_renew 31 = .ok (.aload_n 0, 1) := by decide +kernel
theorem dX7_renew_32 : decode cX7_renew 32 = .ok (.lload 11, 2) := by decide +kernel
theorem dX7_renew_34 : decode cX7_renew 34 = .ok (.lconst 0, 1) := by decide +kernel
theorem dX7_renew_35 : decode cX7_renew 35 = .ok (.lload 9, 2) := by decide +kernel
theorem dX7_renew_37 : decode cX7_renew 37 = .ok (.invokestatic 40, 3) := by decide +kernel
theorem dX7_renew_40 : decode cX7_renew 40 = .ok (.ladd, 1) := by decide +kernel
theorem dX7_renew_41 : decode cX7_renew 41 = .ok (.putfield 7, 3) := by decide +kernel
theorem dX7_renew_44 : decode cX7_renew 44 = .ok (.aload_n 0, 1) := by decide +kernel
theorem dX7_renew_45 : decode cX7_renew 45 = .ok (.lload 11, 2) := by decide +kernel
theorem dX7_renew_47 : decode cX7_renew 47 = .ok (.lconst 0, 1) := by decide +kernel
theorem dX7_renew_48 : decode cX7_renew 48 = .ok (.lload 9, 2) := by decide +kernel
theorem dX7_renew_50 : decode cX7_renew 50 = .ok (.lneg, 1) := by decide +kernel
theorem dX7_renew_51 : decode cX7_renew 51 = .ok (.invokestatic 40, 3) := by decide +kernel
theorem dX7_renew_54 : decode cX7_renew 54 = .ok (.ladd, 1) := by decide +kernel
theorem dX7_renew_55 : decode cX7_renew 55 = .ok (.putfield 13, 3) := by decide +kernel
theorem dX7_renew_58 : decode cX7_renew 58 = .ok (.aload_n 0, 1) := by decide +kernel
theorem dX7_renew_59 : decode cX7_renew 59 = .ok (.lconst 1, 1) := by decide +kernel
theorem dX7_renew_60 : decode cX7_renew 60 = .ok (.lload 7, 2) := by decide +kernel
theorem dX7_renew_62 : decode cX7_renew 62 = .ok (.invokestatic 40, 3) := by decide +kernel
theorem dX7_renew_65 : decode cX7_renew 65 = .ok (.putfield 16, 3) := by decide +kernel
theorem dX7_renew_68 : decode cX7_renew 68 = .ok (.aload_n 0, 1) := by decide +kernel
theorem dX7_renew_69 : decode cX7_renew 69 = .ok (.lconst 1, 1) := by decide +kernel
theorem dX7_renew_70 : decode cX7_renew 70 = .ok (.lload 5, 2) := by decide +kernel
theorem dX7_renew_72 : decode cX7_renew 72 = .ok (.invokestatic 40, 3) := by decide +kernel
theorem dX7_renew_75 : decode cX7_renew 75 = .ok (.putfield 19, 3) := by decide +kernel
theorem dX7_renew_78 : decode cX7_renew 78 = .ok (.aload_n 0, 1) := by decide +kernel
theorem dX7_renew_79 : decode cX7_renew 79 = .ok (.lconst 0, 1) := by decide +kernel
theorem dX7_renew_80 : decode cX7_renew 80 = .ok (.putfield 22, 3) := by decide +kernel
theorem dX7_renew_83 : decode cX7_renew 83 = .ok (.aload_n 0, 1) := by decide +kernel
theorem dX7_renew_84 : decode cX7_renew 84 = .ok (.lconst 0, 1) := by decide +kernel
theorem dX7_renew_85 : decode cX7_renew 85 = .ok (.putfield 25, 3) := by decide +kernel
theorem dX7_renew_88 : decode cX7_renew 88 = .ok (.return_, 1) := by decide +kernel
theorem dX7_plusFor_0 : decode cX7_plusFor 0 = .ok (.aload_n 0, 1) := by decide +kernel
theorem dX7_plusFor_1 : decode cX7_plusFor 1 = .ok (.getfield 16, 3) := by decide +kernel
theorem dX7_plusFor_4 : decode cX7_plusFor 4 = .ok (.lconst 0, 1) := by decide +kernel
theorem dX7_plusFor_5 : decode cX7_plusFor 5 = .ok (.lcmp, 1) := by decide +kernel
theorem dX7_plusFor_6 : decode cX7_plusFor 6 = .ok (.ifCond .le 17, 3) := by decide +kernel
theorem dX7_plusFor_9 : decode cX7_plusFor 9 = .ok (.lload_n 1, 1) := by decide +kernel
theorem dX7_plusFor_10 : decode cX7_plusFor 10 = .ok (.aload_n 0, 1) := by decide +kernel
theorem dX7_plusFor_11 : decode cX7_plusFor 11 = .ok (.getfield 7, 3) := by decide +kernel
theorem dX7_plusFor_14 : decode cX7_plusFor 14 = .ok (.lmul, 1) := by decide +kernel
theorem dX7_plusFor_15 : decode cX7_plusFor 15 = .ok (.aload_n 0, 1) := by decide +kernel
theorem dX7_plusFor_16 : decode cX7_plusFor 16 = .ok (.getfield 16, 3) := by decide +kernel
theorem dX7_plusFor_19 : decode cX7_plusFor 19 = .ok (.ldiv, 1) := by decide +kernel
theorem dX7_plusFor_20 : decode cX7_plusFor 20 = .ok (.goto 4, 3) := by decide +kernel
theorem dX7_plusFor_23 : decode cX7_plusFor 23 = .ok (.lconst 0, 1) := by decide +kernel
theorem dX7_plusFor_24 : decode cX7_plusFor 24 = .ok (.lreturn, 1) := by decide +kernel
theorem dX7_minusFor_0 : decode cX7_minusFor 0 = .ok (.aload_n 0, 1) := by decide +kernel
theorem dX7_minusFor_1 : decode cX7_minusFor 1 = .ok (.getfield 19, 3) := by decide +kernel
theorem dX7_minusFor_4 : decode cX7_minusFor 4 = .ok (.lconst 0, 1) := by decide +kernel
theorem dX7_minusFor_5 : decode cX7_minusFor 5 = .ok (.lcmp, 1) := by decide +kernel
theorem dX7_minusFor_6 : decode cX7_minusFor 6 = .ok (.ifCond .le 17, 3) := by decide +kernel
theorem dX7_minusFor_9 : decode cX7_minusFor 9 = .ok (.lload_n 1, 1) := by decide +kernel
theorem dX7_minusFor_10 : decode cX7_minusFor 10 = .ok (.aload_n 0, 1) := by decide +kernel
theorem dX7_minusFor_11 : decode cX7_minusFor 11 = .ok (.getfield 13, 3) := by decide +kernel
theorem dX7_minusFor_14 : decode cX7_minusFor 14 = .ok (.lmul, 1) := by decide +kernel
theorem dX7_minusFor_15 : decode cX7_minusFor 15 = .ok (.aload_n 0, 1) := by decide +kernel
theorem dX7_minusFor_16 : decode cX7_minusFor 16 = .ok (.getfield 19, 3) := by decide +kernel
theorem dX7_minusFor_19 : decode cX7_minusFor 19 = .ok (.ldiv, 1) := by decide +kernel
theorem dX7_minusFor_20 : decode cX7_minusFor 20 = .ok (.goto 4, 3) := by decide +kernel
theorem dX7_minusFor_23 : decode cX7_minusFor 23 = .ok (.lconst 0, 1) := by decide +kernel
theorem dX7_minusFor_24 : decode cX7_minusFor 24 = .ok (.lreturn, 1) := by decide +kernel
theorem dX7_gotWith_0 : decode cX7_gotWith 0 = .ok (.aload_n 0, 1) := by decide +kernel
theorem dX7_gotWith_1 : decode cX7_gotWith 1 = .ok (.getfield 22, 3) := by decide +kernel
theorem dX7_gotWith_4 : decode cX7_gotWith 4 = .ok (.lload_n 1, 1) := by decide +kernel
theorem dX7_gotWith_5 : decode cX7_gotWith 5 = .ok (.ladd, 1) := by decide +kernel
theorem dX7_gotWith_6 : decode cX7_gotWith 6 = .ok (.aload_n 0, 1) := by decide +kernel
theorem dX7_gotWith_7 : decode cX7_gotWith 7 = .ok (.getfield 16, 3) := by decide +kernel
theorem dX7_gotWith_10 : decode cX7_gotWith 10 = .ok (.invokestatic 44, 3) := by decide +kernel
theorem dX7_gotWith_13 : decode cX7_gotWith 13 = .ok (.lreturn, 1) := by decide +kernel
theorem dX7_tookWithOne_0 : decode cX7_tookWithOne 0 = .ok (.aload_n 0, 1) := by decide +kernel
theorem dX7_tookWithOne_1 : decode cX7_tookWithOne 1 = .ok (.getfield 25, 3) := by decide +kernel
theorem dX7_tookWithOne_4 : decode cX7_tookWithOne 4 = .ok (.lconst 1, 1) := by decide +kernel
theorem dX7_tookWithOne_5 : decode cX7_tookWithOne 5 = .ok (.ladd, 1) := by decide +kernel
theorem dX7_tookWithOne_6 : decode cX7_tookWithOne 6 = .ok (.aload_n 0, 1) := by decide +kernel
theorem dX7_tookWithOne_7 : decode cX7_tookWithOne 7 = .ok (.getfield 19, 3) := by decide +kernel
theorem dX7_tookWithOne_10 : decode cX7_tookWithOne 10 = .ok (.invokestatic 44, 3) := by decide +kernel
theorem dX7_tookWithOne_13 : decode cX7_tookWithOne 13 = .ok (.lreturn, 1) := by decide +kernel
theorem dX7_shareOf_0 : decode cX7_shareOf 0 = .ok (.aload_n 0, 1) := by decide +kernel
theorem dX7_shareOf_1 : decode cX7_shareOf 1 = .ok (.aload_n 0, 1) := by decide +kernel
theorem dX7_shareOf_2 : decode cX7_shareOf 2 = .ok (.lload_n 1, 1) := by decide +kernel
theorem dX7_shareOf_3 : decode cX7_shareOf 3 = .ok (.invokevirtual 47, 3) := by decide +kernel
theorem dX7_shareOf_6 : decode cX7_shareOf 6 = .ok (.invokevirtual 50, 3) := by decide +kernel
theorem dX7_shareOf_9 : decode cX7_shareOf 9 = .ok (.aload_n 0, 1) := by decide +kernel
theorem dX7_shareOf_10 : decode cX7_shareOf 10 = .ok (.aload_n 0, 1) := by decide +kernel
theorem dX7_shareOf_11 : decode cX7_shareOf 11 = .ok (.getfield 22, 3) := by decide +kernel
theorem dX7_shareOf_14 : decode cX7_shareOf 14 = .ok (.invokevirtual 50, 3) := by decide +kernel
theorem dX7_shareOf_17 : decode cX7_shareOf 17 = .ok (.lsub, 1) := by decide +kernel
theorem dX7_shareOf_18 : decode cX7_shareOf 18 = .ok (.lstore_n 3, 1) := by decide +kernel
theorem dX7_shareOf_19 : decode cX7_shareOf 19 = .ok (.aload_n 0, 1) := by decide +kernel
theorem dX7_shareOf_20 : decode cX7_shareOf 20 = .ok (.aload_n 0, 1) := by decide +kernel
theorem dX7_shareOf_21 : decode cX7_shareOf 21 = .ok (.invokevirtual 53, 3) := by decide +kernel
theorem dX7_shareOf_24 : decode cX7_shareOf 24 = .ok (.invokevirtual 57, 3) := by decide +kernel
theorem dX7_shareOf_27 : decode cX7_shareOf 27 = .ok (.aload_n 0, 1) := by decide +kernel
theorem dX7_shareOf_28 : decode cX7_shareOf 28 = .ok (.aload_n 0, 1) := by decide +kernel
theorem dX7_shareOf_29 : decode cX7_shareOf 29 = .ok (.getfield 25, 3) := by decide +kernel
theorem dX7_shareOf_32 : decode cX7_shareOf 32 = .ok (.invokevirtual 57, 3) := by decide +kernel
theorem dX7_shareOf_35 : decode cX7_shareOf 35 = .ok (.lsub, 1) := by decide +kernel
theorem dX7_shareOf_36 : decode cX7_shareOf 36 = .ok (.lstore 5, 2) := by decide +kernel
theorem dX7_shareOf_38 : decode cX7_shareOf 38 = .ok (.lload_n 3, 1) := by decide +kernel
theorem dX7_shareOf_39 : decode cX7_shareOf 39 = .ok (.lload 5, 2) := by decide +kernel
theorem dX7_shareOf_41 : decode cX7_shareOf 41 = .ok (.lsub, 1) := by decide +kernel
theorem dX7_shareOf_42 : decode cX7_shareOf 42 = .ok (.l2i, 1) := by decide +kernel
theorem dX7_shareOf_43 : decode cX7_shareOf 43 = .ok (.ireturn, 1) := by decide +kernel
theorem dX7_giveShare_0 : decode cX7_giveShare 0 = .ok (.aload_n 0, 1) := by decide +kernel
theorem dX7_giveShare_1 : decode cX7_giveShare 1 = .ok (.lload_n 1, 1) := by decide +kernel
theorem dX7_giveShare_2 : decode cX7_giveShare 2 = .ok (.invokevirtual 60, 3) := by decide +kernel
theorem dX7_giveShare_5 : decode cX7_giveShare 5 = .ok (.istore_n 3, 1) := by decide +kernel
theorem dX7_giveShare_6 : decode cX7_giveShare 6 = .ok (.aload_n 0, 1) := by decide +kernel
theorem dX7_giveShare_7 : decode cX7_giveShare 7 = .ok (.aload_n 0, 1) := by decide +kernel
theorem dX7_giveShare_8 : decode cX7_giveShare 8 = .ok (.lload_n 1, 1) := by decide +kernel
theorem dX7_giveShare_9 : decode cX7_giveShare 9 = .ok (.invokevirtual 47, 3) := by decide +kernel
theorem dX7_giveShare_12 : decode cX7_giveShare 12 = .ok (.putfield 22, 3) := by decide +kernel
theorem dX7_giveShare_15 : decode cX7_giveShare 15 = .ok (.aload_n 0, 1) := by decide +kernel
theorem dX7_giveShare_16 : decode cX7_giveShare 16 = .ok (.aload_n 0, 1) := by decide +kernel
theorem dX7_giveShare_17 : decode cX7_giveShare 17 = .ok (.invokevirtual 53, 3) := by decide +kernel
theorem dX7_giveShare_20 : decode cX7_giveShare 20 = .ok (.putfield 25, 3) := by decide +kernel
theorem dX7_giveShare_23 : decode cX7_giveShare 23 = .ok (.iload_n 3, 1) := by decide +kernel
theorem dX7_giveShare_24 : decode cX7_giveShare 24 = .ok (.ireturn, 1) := by decide +kernel
theorem dX8_init_0 : decode cX8_init 0 = .ok (.aload_n 0, 1) := by decide +kernel
theorem dX8_init_1 : decode cX8_init 1 = .ok (.invokespecial 3, 3) := by decide +kernel
theorem dX8_init_4 : decode cX8_init 4 = .ok (.return_, 1) := by decide +kernel
theorem dX8_readNet_0 : decode cX8_readNet 0 = .ok (.aload_n 0, 1) := by decide +kernel
theorem dX8_readNet_1 : decode cX8_readNet 1 = .ok (.aload_n 1, 1) := by decide +kernel
theorem dX8_readNet_2 : decode cX8_readNet 2 = .ok (.putfield 9, 3) := by decide +kernel
theorem dX8_readNet_5 : decode cX8_readNet 5 = .ok (.aload_n 0, 1) := by decide +kernel
theorem dX8_readNet_6 : decode cX8_readNet 6 = .ok (.iload_n 2, 1) := by decide +kernel
theorem dX8_readNet_7 : decode cX8_readNet 7 = .ok (.aload_n 1, 1) := by decide +kernel
theorem dX8_readNet_8 : decode cX8_readNet 8 = .ok (.arraylength, 1) := by decide +kernel
theorem dX8_readNet_9 : decode cX8_readNet 9 = .ok (.invokestatic 15, 3) := by decide +kernel
theorem dX8_readNet_12 : decode cX8_readNet 12 = .ok (.putfield 21, 3) := by decide +kernel
theorem dX8_readNet_15 : decode cX8_readNet 15 = .ok (.aload_n 0, 1) := by decide +kernel
theorem dX8_readNet_16 : decode cX8_readNet 16 = .ok (.aload_n 3, 1) := by decide +kernel
theorem dX8_readNet_17 : decode cX8_readNet 17 = .ok (.putfield 25, 3) := by decide +kernel
theorem dX8_readNet_20 : decode cX8_readNet 20 = .ok (.aload_n 0, 1) := by decide +kernel
theorem dX8_readNet_21 : decode cX8_readNet 21 = .ok (.iconst 0, 1) := by decide +kernel
theorem dX8_readNet_22 : decode cX8_readNet 22 = .ok (.putfield 29, 3) := by decide +kernel
theorem dX8_readNet_25 : decode cX8_readNet 25 = .ok (.aload_n 0, 1) := by decide +kernel
theorem dX8_readNet_26 : decode cX8_readNet 26 = .ok (.iconst (-1), 1) := by decide +kernel
theorem dX8_readNet_27 : decode cX8_readNet 27 = .ok (.putfield 32, 3) := by decide +kernel
theorem dX8_readNet_30 : decode cX8_readNet 30 = .ok (.aload_n 0, 1) := by decide +kernel
theorem dX8_readNet_31 : decode cX8_readNet 31 = .ok (.iconst 0, 1) := by decide +kernel
theorem dX8_readNet_32 : decode cX8_readNet 32 = .ok (.putfield 35, 3) := by decide +kernel
theorem dX8_readNet_35 : decode cX8_readNet 35 = .ok (.aload_n 0, 1) := by decide +kernel
theorem dX8_readNet_36 : decode cX8_readNet 36 = .ok (.getfield 25, 3) := by decide +kernel
theorem dX8_readNet_39 : decode cX8_readNet 39 = .ok (.invokevirtual 38, 3) := by decide +kernel
theorem dX8_readNet_42 : decode cX8_readNet 42 = .ok (.aload_n 0, 1) := by decide +kernel
theorem dX8_readNet_43 : decode cX8_readNet 43 = .ok (.invokevirtual 43, 3) := by decide +kernel
theorem dX8_readNet_46 : decode cX8_readNet 46 = .ok (.iconst 1, 1) := by decide +kernel
theorem dX8_readNet_47 : decode cX8_readNet 47 = .ok (.istore 4, 2) := by decide +kernel
theorem dX8_readNet_49 : decode cX8_readNet 49 = .ok (.iconst 0, 1) := by decide +kernel
theorem dX8_readNet_50 : decode cX8_readNet 50 = .ok (.istore 5, 2) := by decide +kernel
theorem dX8_readNet_52 : decode cX8_readNet 52 = .ok (.iload 5, 2) := by decide +kernel
theorem dX8_readNet_54 : decode cX8_readNet 54 = .ok (.sipush 600, 3) := by decide +kernel
theorem dX8_readNet_57 : decode cX8_readNet 57 = .ok (.if_icmp .gt 64, 3) := by decide +kernel
theorem dX8_readNet_60 : decode cX8_readNet 60 = .ok (.iload 4, 2) := by decide +kernel
theorem dX8_readNet_62 : decode cX8_readNet 62 = .ok (.ifCond .eq 59, 3) := by decide +kernel
theorem dX8_readNet_65 : decode cX8_readNet 65 = .ok (.aload_n 0, 1) := by decide +kernel
theorem dX8_readNet_66 : decode cX8_readNet 66 = .ok (.getfield 46, 3) := by decide +kernel
theorem dX8_readNet_69 : decode cX8_readNet 69 = .ok (.ifCond .eq 52, 3) := by decide +kernel
theorem dX8_readNet_72 : decode cX8_readNet 72 = .ok (.aload_n 0, 1) := by decide +kernel
theorem dX8_readNet_73 : decode cX8_readNet 73 = .ok (.ldc 49, 2) := by decide +kernel
theorem dX8_readNet_75 : decode cX8_readNet 75 = .ok (.invokevirtual 51, 3) := by decide +kernel
theorem dX8_readNet_78 : decode cX8_readNet 78 = .ok (.ifCond .eq 12, 3) := by decide +kernel
theorem dX8_readNet_81 : decode cX8_readNet 81 = .ok (.aload_n 0, 1) := by decide +kernel
theorem dX8_readNet_82 : decode cX8_readNet 82 = .ok (.invokevirtual 55, 3) := by decide +kernel
theorem dX8_readNet_85 : decode cX8_readNet 85 = .ok (.istore 4, 2) := by decide +kernel
theorem dX8_readNet_87 : decode cX8_readNet 87 = .ok (.goto 28, 3) := by decide +kernel
theorem dX8_readNet_90 : decode cX8_readNet 90 = .ok (.aload_n 0, 1) := by decide +kernel
theorem dX8_readNet_91 : decode cX8_readNet 91 = .ok (.ldc 59, 2) := by decide +kernel
theorem dX8_readNet_93 : decode cX8_readNet 93 = .ok (.invokevirtual 51, 3) := by decide +kernel
theorem dX8_readNet_96 : decode cX8_readNet 96 = .ok (.ifCond .eq 12, 3) := by decide +kernel
theorem dX8_readNet_99 : decode cX8_readNet 99 = .ok (.aload_n 0, 1) := by decide +kernel
theorem dX8_readNet_100 : decode cX8_readNet 100 = .ok (.invokevirtual 61, 3) := by decide +kernel
theorem dX8_readNet_103 : decode cX8_readNet 103 = .ok (.istore 4, 2) := by decide +kernel
theorem dX8_readNet_105 : decode cX8_readNet 105 = .ok (.goto 10, 3) := by decide +kernel
theorem dX8_readNet_108 : decode cX8_readNet 108 = .ok (.aload_n 0, 1) := by decide +kernel
theorem dX8_readNet_109 : decode cX8_readNet 109 = .ok (.iconst 2, 1) := by decide +kernel
theorem dX8_readNet_110 : decode cX8_readNet 110 = .ok (.invokevirtual 64, 3) := by decide +kernel
theorem dX8_readNet_113 : decode cX8_readNet 113 = .ok (.istore 4, 2) := by decide +kernel
theorem dX8_readNet_115 : decode cX8_readNet 115 = .ok (.iinc 5 1, 3) := by decide +kernel
theorem dX8_readNet_118 : decode cX8_readNet 118 = .ok (.goto (-66), 3) := by decide +kernel
theorem dX8_readNet_121 : decode cX8_readNet 121 = .ok (.iload 4, 2) := by decide +kernel
theorem dX8_readNet_123 : decode cX8_readNet 123 = .ok (.ireturn, 1) := by decide +kernel
theorem dX8_readLink_0 : decode cX8_readLink 0 = .ok (.aload_n 0, 1) := by decide +kernel
theorem dX8_readLink_1 : decode cX8_readLink 1 = .ok (.getfield 25, 3) := by decide +kernel
theorem dX8_readLink_4 : decode cX8_readLink 4 = .ok (.invokevirtual 68, 3) := by decide +kernel
theorem dX8_readLink_7 : decode cX8_readLink 7 = .ok (.astore_n 1, 1) := by decide +kernel
theorem dX8_readLink_8 : decode cX8_readLink 8 = .ok (.aload_n 1, 1) := by decide +kernel
theorem dX8_readLink_9 : decode cX8_readLink 9 = .ok (.ifnonnull 10, 3) := by decide +kernel
theorem dX8_readLink_12 : decode cX8_readLink 12 = .ok (.aload_n 0, 1) := by decide +kernel
theorem dX8_readLink_13 : decode cX8_readLink 13 = .ok (.bipush 6, 2) := by decide +kernel
theorem dX8_readLink_15 : decode cX8_readLink 15 = .ok (.invokevirtual 64, 3) := by decide +kernel
theorem dX8_readLink_18 : decode cX8_readLink 18 = .ok (.ireturn, 1) := by decide +kernel
theorem dX8_readLink_19 : decode cX8_readLink 19 = .ok (.aload_n 0, 1) := by decide +kernel
theorem dX8_readLink_20 : decode cX8_readLink 20 = .ok (.iconst 1, 1) := by decide +kernel
theorem dX8_readLink_21 : decode cX8_readLink 21 = .ok (.bipush 9, 2) := by decide +kernel
theorem dX8_readLink_23 : decode cX8_readLink 23 = .ok (.invokevirtual 72, 3) := by decide +kernel
theorem dX8_readLink_26 : decode cX8_readLink 26 = .ok (.ifCond .ne 5, 3) := by decide +kernel
theorem dX8_readLink_29 : decode cX8_readLink 29 = .ok (.iconst 0, 1) := by decide +kernel
theorem dX8_readLink_30 : decode cX8_readLink 30 = .ok (.ireturn, 1) := by decide +kernel
theorem dX8_readLink_31 : decode cX8_readLink 31 = .ok (.aload_n 1, 1) := by decide +kernel
theorem dX8_readLink_32 : decode cX8_readLink 32 = .ok (.aload_n 0, 1) := by decide +kernel
theorem dX8_readLink_33 : decode cX8_readLink 33 = .ok (.getfield 76, 3) := by decide +kernel
theorem dX8_readLink_36 : decode cX8_readLink 36 = .ok (.putfield 79, 3) := by decide +kernel
theorem dX8_readLink_39 : decode cX8_readLink 39 = .ok (.aload_n 0, 1) := by decide +kernel
theorem dX8_readLink_40 : decode cX8_readLink 40 = .ok (.iconst 1, 1) := by decide +kernel
theorem dX8_readLink_41 : decode cX8_readLink 41 = .ok (.bipush 9, 2) := by decide +kernel
theorem dX8_readLink_43 : decode cX8_readLink 43 = .ok (.invokevirtual 72, 3) := by decide +kernel
theorem dX8_readLink_46 : decode cX8_readLink 46 = .ok (.ifCond .ne 5, 3) := by decide +kernel
theorem dX8_readLink_49 : decode cX8_readLink 49 = .ok (.iconst 0, 1) := by decide +kernel
theorem dX8_readLink_50 : decode cX8_readLink 50 = .ok (.ireturn, 1) := by decide +kernel
theorem dX8_readLink_51 : decode cX8_readLink 51 = .ok (.aload_n 1, 1) := by decide +kernel
theorem dX8_readLink_52 : decode cX8_readLink 52 = .ok (.aload_n 0, 1) := by decide +kernel
theorem dX8_readLink_53 : decode cX8_readLink 53 = .ok (.getfield 76, 3) := by decide +kernel
theorem dX8_readLink_56 : decode cX8_readLink 56 = .ok (.putfield 84, 3) := by decide +kernel
theorem dX8_readLink_59 : decode cX8_readLink 59 = .ok (.aload_n 0, 1) := by decide +kernel
theorem dX8_readLink_60 : decode cX8_readLink 60 = .ok (.iconst 1, 1) := by decide +kernel
theorem dX8_readLink_61 : decode cX8_readLink 61 = .ok (.bipush 60, 2) := by decide +kernel
theorem dX8_readLink_63 : decode cX8_readLink 63 = .ok (.invokevirtual 72, 3) := by decide +kernel
theorem dX8_readLink_66 : decode cX8_readLink 66 = .ok (.ifCond .ne 5, 3) := by decide +kernel
theorem dX8_readLink_69 : decode cX8_readLink 69 = .ok (.iconst 0, 1) := by decide +kernel
theorem dX8_readLink_70 : decode cX8_readLink 70 = .ok (.ireturn, 1) := by decide +kernel
theorem dX8_readLink_71 : decode cX8_readLink 71 = .ok (.aload_n 1, 1) := by decide +kernel
theorem dX8_readLink_72 : decode cX8_readLink 72 = .ok (.aload_n 0, 1) := by decide +kernel
theorem dX8_readLink_73 : decode cX8_readLink 73 = .ok (.getfield 76, 3) := by decide +kernel
theorem dX8_readLink_76 : decode cX8_readLink 76 = .ok (.putfield 87, 3) := by decide +kernel
theorem dX8_readLink_79 : decode cX8_readLink 79 = .ok (.aload_n 1, 1) := by decide +kernel
theorem dX8_readLink_80 : decode cX8_readLink 80 = .ok (.bipush 10, 2) := by decide +kernel
theorem dX8_readLink_82 : decode cX8_readLink 82 = .ok (.putfield 90, 3) := by decide +kernel
theorem dX8_readLink_85 : decode cX8_readLink 85 = .ok (.aload_n 0, 1) := by decide +kernel
theorem dX8_readLink_86 : decode cX8_readLink 86 = .ok (.invokevirtual 43, 3) := by decide +kernel
theorem dX8_readLink_89 : decode cX8_readLink 89 = .ok (.aload_n 0, 1) := by decide +kernel
theorem dX8_readLink_90 : decode cX8_readLink 90 = .ok (.ldc 93, 2) := by decide +kernel
theorem dX8_readLink_92 : decode cX8_readLink 92 = .ok (.invokevirtual 51, 3) := by decide +kernel
theorem dX8_readLink_95 : decode cX8_readLink 95 = .ok (.ifCond .eq 27, 3) := by decide +kernel
theorem dX8_readLink_98 : decode cX8_readLink 98 = .ok (.aload_n 0, 1) := by decide +kernel
theorem dX8_readLink_99 : decode cX8_readLink 99 = .ok (.iconst 2, 1) := by decide +kernel
theorem dX8_readLink_100 : decode cX8_readLink 100 = .ok (.bipush 30, 2) := by decide +kernel
theorem dX8_readLink_102 : decode cX8_readLink 102 = .ok (.invokevirtual 72, 3) := by decide +kernel
theorem dX8_readLink_105 : decode cX8_readLink 105 = .ok (.ifCond .ne 5, 3) := by decide +kernel
theorem dX8_readLink_108 : decode cX8_readLink 108 = .ok (.iconst 0, 1) := by decide +kernel
theorem dX8_readLink_109 : decode cX8_readLink 109 = .ok (.ireturn, 1) := by decide +kernel
theorem dX8_readLink_110 : decode cX8_readLink 110 = .ok (.aload_n 1, 1) := by decide +kernel
theorem dX8_readLink_111 : decode cX8_readLink 111 = .ok (.aload_n 0, 1) := by decide +kernel
theorem dX8_readLink_112 : decode cX8_readLink 112 = .ok (.getfield 76, 3) := by decide +kernel
theorem dX8_readLink_115 : decode cX8_readLink 115 = .ok (.putfield 90, 3) := by decide +kernel
theorem dX8_readLink_118 : decode cX8_readLink 118 = .ok (.aload_n 0, 1) := by decide +kernel
theorem dX8_readLink_119 : decode cX8_readLink 119 = .ok (.invokevirtual 43, 3) := by decide +kernel
theorem dX8_readLink_122 : decode cX8_readLink 122 = .ok (.aload_n 1, 1) := by decide +kernel
theorem dX8_readLink_123 : decode cX8_readLink 123 = .ok (.invokevirtual 94, 3) := by decide +kernel
theorem dX8_readLink_126 : decode cX8_readLink 126 = .ok (.aload_n 0, 1) := by decide +kernel
theorem dX8_readLink_127 : decode cX8_readLink 127 = .ok (.invokevirtual 97, 3) := by decide +kernel
theorem dX8_readLink_130 : decode cX8_readLink 130 = .ok (.ireturn, 1) := by decide +kernel
theorem dX8_readFlow_0 : decode cX8_readFlow 0 = .ok (.aload_n 0, 1) := by decide +kernel
theorem dX8_readFlow_1 : decode cX8_readFlow 1 = .ok (.getfield 25, 3) := by decide +kernel
theorem dX8_readFlow_4 : decode cX8_readFlow 4 = .ok (.invokevirtual 100, 3) := by decide +kernel
theorem dX8_readFlow_7 : decode cX8_readFlow 7 = .ok (.astore_n 1, 1) := by decide +kernel
theorem dX8_readFlow_8 : decode cX8_readFlow 8 = .ok (.aload_n 1, 1) := by decide +kernel
theorem dX8_readFlow_9 : decode cX8_readFlow 9 = .ok (.ifnonnull 10, 3) := by decide +kernel
theorem dX8_readFlow_12 : decode cX8_readFlow 12 = .ok (.aload_n 0, 1) := by decide +kernel
theorem dX8_readFlow_13 : decode cX8_readFlow 13 = .ok (.bipush 6, 2) := by decide +kernel
theorem dX8_readFlow_15 : decode cX8_readFlow 15 = .ok (.invokevirtual 64, 3) := by decide +kernel
theorem dX8_readFlow_18 : decode cX8_readFlow 18 = .ok (.ireturn, 1) := by decide +kernel
theorem dX8_readFlow_19 : decode cX8_readFlow 19 = .ok (.aload_n 1, 1) := by decide +kernel
theorem dX8_readFlow_20 : decode cX8_readFlow 20 = .ok (.invokevirtual 104, 3) := by decide +kernel
theorem dX8_readFlow_23 : decode cX8_readFlow 23 = .ok (.aload_n 0, 1) := by decide +kernel
theorem dX8_readFlow_24 : decode cX8_readFlow 24 = .ok (.iconst 0, 1) := by decide +kernel
theorem dX8_readFlow_25 : decode cX8_readFlow 25 = .ok (.putfield 107, 3) := by decide +kernel
theorem dX8_readFlow_28 : decode cX8_readFlow 28 = .ok (.aload_n 0, 1) := by decide +kernel
theorem dX8_readFlow_29 : decode cX8_readFlow 29 = .ok (.invokevirtual 43, 3) := by decide +kernel
theorem dX8_readFlow_32 : decode cX8_readFlow 32 = .ok (.aload_n 0, 1) := by decide +kernel
theorem dX8_readFlow_33 : decode cX8_readFlow 33 = .ok (.aload_n 1, 1) := by decide +kernel
theorem dX8_readFlow_34 : decode cX8_readFlow 34 = .ok (.invokevirtual 111, 3) := by decide +kernel
theorem dX8_readFlow_37 : decode cX8_readFlow 37 = .ok (.istore_n 2, 1) := by decide +kernel
theorem dX8_readFlow_38 : decode cX8_readFlow 38 = .ok (.iconst 0, 1) := by decide +kernel
theorem dX8_readFlow_39 : decode cX8_readFlow 39 = .ok (.istore_n 3, 1) := by decide +kernel
theorem dX8_readFlow_40 : decode cX8_readFlow 40 = .ok (.iload_n 3, 1) := by decide +kernel
theorem dX8_readFlow_41 : decode cX8_readFlow 41 = .ok (.iconst 3, 1) := by decide +kernel
theorem dX8_readFlow_42 : decode cX8_readFlow 42 = .ok (.if_icmp .gt 27, 3) := by decide +kernel
theorem dX8_readFlow_45 : decode cX8_readFlow 45 = .ok (.iload_n 2, 1) := by decide +kernel
theorem dX8_readFlow_46 : decode cX8_readFlow 46 = .ok (.ifCond .eq 23, 3) := by decide +kernel
theorem dX8_readFlow_49 : decode cX8_readFlow 49 = .ok (.aload_n 0, 1) := by decide +kernel
theorem dX8_readFlow_50 : decode cX8_readFlow 50 = .ok (.getfield 46, 3) := by decide +kernel
theorem dX8_readFlow_53 : decode cX8_readFlow 53 = .ok (.iconst 1, 1) := by decide +kernel
theorem dX8_readFlow_54 : decode cX8_readFlow 54 = .ok (.if_icmp .ne 15, 3) := by decide +kernel
theorem dX8_readFlow_57 : decode cX8_readFlow 57 = .ok (.aload_n 0, 1) := by decide +kernel
theorem dX8_readFlow_58 : decode cX8_readFlow 58 = .ok (.aload_n 1, 1) := by decide +kernel
theorem dX8_readFlow_59 : decode cX8_readFlow 59 = .ok (.invokevirtual 115, 3) := by decide +kernel
theorem dX8_readFlow_62 : decode cX8_readFlow 62 = .ok (.istore_n 2, 1) := by decide +kernel
theorem dX8_readFlow_63 : decode cX8_readFlow 63 = .ok (.iinc 3 1, 3) := by decide +kernel
theorem dX8_readFlow_66 : decode cX8_readFlow 66 = .ok (.goto (-26), 3) := by decide +kernel
theorem dX8_readFlow_69 : decode cX8_readFlow 69 = .ok (.aload_n 0, 1) := by decide +kernel
theorem dX8_readFlow_70 : decode cX8_readFlow 70 = .ok (.getfield 25, 3) := by decide +kernel
theorem dX8_readFlow_73 : decode cX8_readFlow 73 = .ok (.aload_n 1, 1) := by decide +kernel
theorem dX8_readFlow_74 : decode cX8_readFlow 74 = .ok (.invokevirtual 118, 3) := by decide +kernel
theorem dX8_readFlow_77 : decode cX8_readFlow 77 = .ok (.aload_n 1, 1) := by decide +kernel
theorem dX8_readFlow_78 : decode cX8_readFlow 78 = .ok (.iconst 2, 1) := by decide +kernel
theorem dX8_readFlow_79 : decode cX8_readFlow 79 = .ok (.aload_n 1, 1) := by decide +kernel
theorem dX8_readFlow_80 : decode cX8_readFlow 80 = .ok (.getfield 122, 3) := by decide +kernel
theorem dX8_readFlow_83 : decode cX8_readFlow 83 = .ok (.imul, 1) := by decide +kernel
theorem dX8_readFlow_84 : decode cX8_readFlow 84 = .ok (.putfield 125, 3) := by decide +kernel
theorem dX8_readFlow_87 : decode cX8_readFlow 87 = .ok (.iload_n 2, 1) := by decide +kernel
theorem dX8_readFlow_88 : decode cX8_readFlow 88 = .ok (.ifCond .eq 14, 3) := by decide +kernel
theorem dX8_readFlow_91 : decode cX8_readFlow 91 = .ok (.aload_n 0, 1) := by decide +kernel
theorem dX8_readFlow_92 : decode cX8_readFlow 92 = .ok (.invokevirtual 97, 3) := by decide +kernel
theorem dX8_readFlow_95 : decode cX8_readFlow 95 = .ok (.ifCond .eq 7, 3) := by decide +kernel
theorem dX8_readFlow_98 : decode cX8_readFlow 98 = .ok (.iconst 1, 1) := by decide +kernel
theorem dX8_readFlow_99 : decode cX8_readFlow 99 = .ok (.goto 4, 3) := by decide +kernel
theorem dX8_readFlow_102 : decode cX8_readFlow 102 = .ok (.iconst 0, 1) := by decide +kernel
theorem dX8_readFlow_103 : decode cX8_readFlow 103 = .ok (.ireturn, 1) := by decide +kernel
theorem dX8_readPath_0 : decode cX8_readPath 0 = .ok (.aload_n 0, 1) := by decide +kernel
theorem dX8_readPath_1 : decode cX8_readPath 1 = .ok (.getfield 46, 3) := by decide +kernel
theorem dX8_readPath_4 : decode cX8_readPath 4 = .ok (.iconst 2, 1) := by decide +kernel
theorem dX8_readPath_5 : decode cX8_readPath 5 = .ok (.if_icmp .eq 9, 3) := by decide +kernel
theorem dX8_readPath_8 : decode cX8_readPath 8 = .ok (.aload_n 0, 1) := by decide +kernel
theorem dX8_readPath_9 : decode cX8_readPath 9 = .ok (.iconst 2, 1) := by decide +kernel
theorem dX8_readPath_10 : decode cX8_readPath 10 = .ok (.invokevirtual 64, 3) := by decide +kernel
theorem dX8_readPath_13 : decode cX8_readPath 13 = .ok (.ireturn, 1) := by decide +kernel
theorem dX8_readPath_14 : decode cX8_readPath 14 = .ok (.iconst 0, 1) := by decide +kernel
theorem dX8_readPath_15 : decode cX8_readPath 15 = .ok (.istore_n 2, 1) := by decide +kernel
theorem dX8_readPath_16 : decode cX8_readPath 16 = .ok (.iload_n 2, 1) := by decide +kernel
theorem dX8_readPath_17 : decode cX8_readPath 17 = .ok (.iconst 4, 1) := by decide +kernel
theorem dX8_readPath_18 : decode cX8_readPath 18 = .ok (.if_icmp .gt 81, 3) := by decide +kernel
theorem dX8_readPath_21 : decode cX8_readPath 21 = .ok (.aload_n 0, 1) := by decide +kernel
theorem dX8_readPath_22 : decode cX8_readPath 22 = .ok (.getfield 46, 3) := by decide +kernel
theorem dX8_readPath_25 : decode cX8_readPath 25 = .ok (.iconst 2, 1) := by decide +kernel
theorem dX8_readPath_26 : decode cX8_readPath 26 = .ok (.if_icmp .ne 73, 3) := by decide +kernel
theorem dX8_readPath_29 : decode cX8_readPath 29 = .ok (.aload_n 0, 1) := by decide +kernel
theorem dX8_readPath_30 : decode cX8_readPath 30 = .ok (.getfield 76, 3) := by decide +kernel
theorem dX8_readPath_33 : decode cX8_readPath 33 = .ok (.aload_n 0, 1) := by decide +kernel
theorem dX8_readPath_34 : decode cX8_readPath 34 = .ok (.getfield 25, 3) := by decide +kernel
theorem dX8_readPath_37 : decode cX8_readPath 37 = .ok (.getfield 128, 3) := by decide +kernel
theorem dX8_readPath_40 : decode cX8_readPath 40 = .ok (.if_icmp .lt 9, 3) := by decide +kernel
theorem dX8_readPath_43 : decode cX8_readPath 43 = .ok (.aload_n 0, 1) := by decide +kernel
theorem dX8_readPath_44 : decode cX8_readPath 44 = .ok (.iconst 3, 1) := by decide +kernel
theorem dX8_readPath_45 : decode cX8_readPath 45 = .ok (.invokevirtual 64, 3) := by decide +kernel
theorem dX8_readPath_48 : decode cX8_readPath 48 = .ok (.ireturn, 1) := by decide +kernel
theorem dX8_readPath_49 : decode cX8_readPath 49 = .ok (.aload_n 1, 1) := by decide +kernel
theorem dX8_readPath_50 : decode cX8_readPath 50 = .ok (.aload_n 0, 1) := by decide +kernel
theorem dX8_readPath_51 : decode cX8_readPath 51 = .ok (.getfield 76, 3) := by decide +kernel
theorem dX8_readPath_54 : decode cX8_readPath 54 = .ok (.invokevirtual 131, 3) := by decide +kernel
theorem dX8_readPath_57 : decode cX8_readPath 57 = .ok (.ifCond .eq 9, 3) := by decide +kernel
theorem dX8_readPath_60 : decode cX8_readPath 60 = .ok (.aload_n 0, 1) := by decide +kernel
theorem dX8_readPath_61 : decode cX8_readPath 61 = .ok (.iconst 4, 1) := by decide +kernel
theorem dX8_readPath_62 : decode cX8_readPath 62 = .ok (.invokevirtual 64, 3) := by decide +kernel
theorem dX8_readPath_65 : decode cX8_readPath 65 = .ok (.ireturn, 1) := by decide +kernel
theorem dX8_readPath_66 : decode cX8_readPath 66 = .ok (.aload_n 1, 1) := by decide +kernel
theorem dX8_readPath_67 : decode cX8_readPath 67 = .ok (.getfield 134, 3) := by decide +kernel
theorem dX8_readPath_70 : decode cX8_readPath 70 = .ok (.iconst 4, 1) := by decide +kernel
theorem dX8_readPath_71 : decode cX8_readPath 71 = .ok (.if_icmp .lt 10, 3) := by decide +kernel
theorem dX8_readPath_74 : decode cX8_readPath 74 = .ok (.aload_n 0, 1) := by decide +kernel
theorem dX8_readPath_75 : decode cX8_readPath 75 = .ok (.bipush 6, 2) := by decide +kernel
theorem dX8_readPath_77 : decode cX8_readPath 77 = .ok (.invokevirtual 64, 3) := by decide +kernel
theorem dX8_readPath_80 : decode cX8_readPath 80 = .ok (.ireturn, 1) := by decide +kernel
theorem dX8_readPath_81 : decode cX8_readPath 81 = .ok (.aload_n 1, 1) := by decide +kernel
theorem dX8_readPath_82 : decode cX8_readPath 82 = .ok (.aload_n 0, 1) := by decide +kernel
theorem dX8_readPath_83 : decode cX8_readPath 83 = .ok (.getfield 76, 3) := by decide +kernel
theorem dX8_readPath_86 : decode cX8_readPath 86 = .ok (.invokevirtual 135, 3) := by decide +kernel
theorem dX8_readPath_89 : decode cX8_readPath 89 = .ok (.aload_n 0, 1) := by decide +kernel
theorem dX8_readPath_90 : decode cX8_readPath 90 = .ok (.invokevirtual 43, 3) := by decide +kernel
theorem dX8_readPath_93 : decode cX8_readPath 93 = .ok (.iinc 2 1, 3) := by decide +kernel
theorem dX8_readPath_96 : decode cX8_readPath 96 = .ok (.goto (-80), 3) := by decide +kernel
theorem dX8_readPath_99 : decode cX8_readPath 99 = .ok (.iconst 1, 1) := by decide +kernel
theorem dX8_readPath_100 : decode cX8_readPath 100 = .ok (.ireturn, 1) := by decide +kernel
theorem dX8_readMark_0 : decode cX8_readMark 0 = .ok (.aload_n 0, 1) := by decide +kernel
theorem dX8_readMark_1 : decode cX8_readMark 1 = .ok (.invokevirtual 139, 3) := by decide +kernel
theorem dX8_readMark_4 : decode cX8_readMark 4 = .ok (.istore_n 2, 1) := by decide +kernel
theorem dX8_readMark_5 : decode cX8_readMark 5 = .ok (.iload_n 2, 1) := by decide +kernel
theorem dX8_readMark_6 : decode cX8_readMark 6 = .ok (.ifCond .eq 24, 3) := by decide +kernel
theorem dX8_readMark_9 : decode cX8_readMark 9 = .ok (.aload_n 1, 1) := by decide +kernel
theorem dX8_readMark_10 : decode cX8_readMark 10 = .ok (.getfield 143, 3) := by decide +kernel
theorem dX8_readMark_13 : decode cX8_readMark 13 = .ok (.ifCond .eq 9, 3) := by decide +kernel
theorem dX8_readMark_16 : decode cX8_readMark 16 = .ok (.aload_n 0, 1) := by decide +kernel
theorem dX8_readMark_17 : decode cX8_readMark 17 = .ok (.iconst 5, 1) := by decide +kernel
theorem dX8_readMark_18 : decode cX8_readMark 18 = .ok (.invokevirtual 64, 3) := by decide +kernel
theorem dX8_readMark_21 : decode cX8_readMark 21 = .ok (.ireturn, 1) := by decide +kernel
theorem dX8_readMark_22 : decode cX8_readMark 22 = .ok (.aload_n 1, 1) := by decide +kernel
theorem dX8_readMark_23 : decode cX8_readMark 23 = .ok (.iload_n 2, 1) := by decide +kernel
theorem dX8_readMark_24 : decode cX8_readMark 24 = .ok (.putfield 143, 3) := by decide +kernel
theorem dX8_readMark_27 : decode cX8_readMark 27 = .ok (.goto 90, 3) := by decide +kernel
theorem dX8_readMark_30 : decode cX8_readMark 30 = .ok (.aload_n 0, 1) := by decide +kernel
theorem dX8_readMark_31 : decode cX8_readMark 31 = .ok (.ldc 146, 2) := by decide +kernel
theorem dX8_readMark_33 : decode cX8_readMark 33 = .ok (.invokevirtual 51, 3) := by decide +kernel
theorem dX8_readMark_36 : decode cX8_readMark 36 = .ok (.ifCond .eq 24, 3) := by decide +kernel
theorem dX8_readMark_39 : decode cX8_readMark 39 = .ok (.aload_n 1, 1) := by decide +kernel
theorem dX8_readMark_40 : decode cX8_readMark 40 = .ok (.getfield 148, 3) := by decide +kernel
theorem dX8_readMark_43 : decode cX8_readMark 43 = .ok (.ifCond .ne 9, 3) := by decide +kernel
theorem dX8_readMark_46 : decode cX8_readMark 46 = .ok (.aload_n 0, 1) := by decide +kernel
theorem dX8_readMark_47 : decode cX8_readMark 47 = .ok (.iconst 5, 1) := by decide +kernel
theorem dX8_readMark_48 : decode cX8_readMark 48 = .ok (.invokevirtual 64, 3) := by decide +kernel
theorem dX8_readMark_51 : decode cX8_readMark 51 = .ok (.ireturn, 1) := by decide +kernel
theorem dX8_readMark_52 : decode cX8_readMark 52 = .ok (.aload_n 1, 1) := by decide +kernel
theorem dX8_readMark_53 : decode cX8_readMark 53 = .ok (.iconst 0, 1) := by decide +kernel
theorem dX8_readMark_54 : decode cX8_readMark 54 = .ok (.putfield 148, 3) := by decide +kernel
theorem dX8_readMark_57 : decode cX8_readMark 57 = .ok (.goto 60, 3) := by decide +kernel
theorem dX8_readMark_60 : decode cX8_readMark 60 = .ok (.aload_n 0, 1) := by decide +kernel
theorem dX8_readMark_61 : decode cX8_readMark 61 = .ok (.ldc 151, 2) := by decide +kernel
theorem dX8_readMark_63 : decode cX8_readMark 63 = .ok (.invokevirtual 51, 3) := by decide +kernel
theorem dX8_readMark_66 : decode cX8_readMark 66 = .ok (.ifCond .eq 45, 3) := by decide +kernel
theorem dX8_readMark_69 : decode cX8_readMark 69 = .ok (.aload_n 0, 1) := by decide +kernel
theorem dX8_readMark_70 : decode cX8_readMark 70 = .ok (.getfield 107, 3) := by decide +kernel
theorem dX8_readMark_73 : decode cX8_readMark 73 = .ok (.ifCond .eq 9, 3) := by decide +kernel
theorem dX8_readMark_76 : decode cX8_readMark 76 = .ok (.aload_n 0, 1) := by decide +kernel
theorem dX8_readMark_77 : decode cX8_readMark 77 = .ok (.iconst 5, 1) := by decide +kernel
theorem dX8_readMark_78 : decode cX8_readMark 78 = .ok (.invokevirtual 64, 3) := by decide +kernel
theorem dX8_readMark_81 : decode cX8_readMark 81 = .ok (.ireturn, 1) := by decide +kernel
theorem dX8_readMark_82 : decode cX8_readMark 82 = .ok (.aload_n 0, 1) := by decide +kernel
theorem dX8_readMark_83 : decode cX8_readMark 83 = .ok (.iconst 1, 1) := by decide +kernel
theorem dX8_readMark_84 : decode cX8_readMark 84 = .ok (.putfield 107, 3) := by decide +kernel
theorem dX8_readMark_87 : decode cX8_readMark 87 = .ok (.aload_n 0, 1) := by decide +kernel
theorem dX8_readMark_88 : decode cX8_readMark 88 = .ok (.iconst 0, 1) := by decide +kernel
theorem dX8_readMark_89 : decode cX8_readMark 89 = .ok (.sipush 9999, 3) := by decide +kernel
theorem dX8_readMark_92 : decode cX8_readMark 92 = .ok (.invokevirtual 72, 3) := by decide +kernel
theorem dX8_readMark_95 : decode cX8_readMark 95 = .ok (.ifCond .ne 5, 3) := by decide +kernel
theorem dX8_readMark_98 : decode cX8_readMark 98 = .ok (.iconst 0, 1) := by decide +kernel
theorem dX8_readMark_99 : decode cX8_readMark 99 = .ok (.ireturn, 1) := by decide +kernel
theorem dX8_readMark_100 : decode cX8_readMark 100 = .ok (.aload_n 1, 1) := by decide +kernel
theorem dX8_readMark_101 : decode cX8_readMark 101 = .ok (.aload_n 0, 1) := by decide +kernel
theorem dX8_readMark_102 : decode cX8_readMark 102 = .ok (.getfield 76, 3) := by decide +kernel
theorem dX8_readMark_105 : decode cX8_readMark 105 = .ok (.putfield 153, 3) := by decide +kernel
theorem dX8_readMark_108 : decode cX8_readMark 108 = .ok (.goto 9, 3) := by decide +kernel
theorem dX8_readMark_111 : decode cX8_readMark 111 = .ok (.aload_n 0, 1) := by decide +kernel
theorem dX8_readMark_112 : decode cX8_readMark 112 = .ok (.iconst 2, 1) := by decide +kernel
theorem dX8_readMark_113 : decode cX8_readMark 113 = .ok (.invokevirtual 64, 3) := by decide +kernel
theorem dX8_readMark_116 : decode cX8_readMark 116 = .ok (.ireturn, 1) := by decide +kernel
theorem dX8_readMark_117 : decode cX8_readMark 117 = .ok (.aload_n 0, 1) := by decide +kernel
theorem dX8_readMark_118 : decode cX8_readMark 118 = .ok (.invokevirtual 43, 3) := by decide +kernel
theorem dX8_readMark_121 : decode cX8_readMark 121 = .ok (.iconst 1, 1) := by decide +kernel
theorem dX8_readMark_122 : decode cX8_readMark 122 = .ok (.ireturn, 1) := by decide +kernel
theorem dX8_kindOfWord_0 : decode cX8_kindOfWord 0 = .ok (.aload_n 0, 1) := by decide +kernel
theorem dX8_kindOfWord_1 : decode cX8_kindOfWord 1 = .ok (.ldc 155, 2) := by decide +kernel
theorem dX8_kindOfWord_3 : decode cX8_kindOfWord 3 = .ok (.invokevirtual 51, 3) := by decide +kernel
theorem dX8_kindOfWord_6 : decode cX8_kindOfWord 6 = .ok (.ifCond .eq 5, 3) := by decide +kernel
theorem dX8_kindOfWord_9 : decode cX8_kindOfWord 9 = .ok (.iconst 1, 1) := by decide +kernel
theorem dX8_kindOfWord_10 : decode cX8_kindOfWord 10 = .ok (.ireturn, 1) := by decide +kernel
theorem dX8_kindOfWord_11 : decode cX8_kindOfWord 11 = .ok (.aload_n 0, 1) := by decide +kernel
theorem dX8_kindOfWord_12 : decode cX8_kindOfWord 12 = .ok (.ldc 157, 2) := by decide +kernel
theorem dX8_kindOfWord_14 : decode cX8_kindOfWord 14 = .ok (.invokevirtual 51, 3) := by decide +kernel
theorem dX8_kindOfWord_17 : decode cX8_kindOfWord 17 = .ok (.ifCond .eq 5, 3) := by decide +kernel
theorem dX8_kindOfWord_20 : decode cX8_kindOfWord 20 = .ok (.iconst 2, 1) := by decide +kernel
theorem dX8_kindOfWord_21 : decode cX8_kindOfWord 21 = .ok (.ireturn, 1) := by decide +kernel
theorem dX8_kindOfWord_22 : decode cX8_kindOfWord 22 = .ok (.aload_n 0, 1) := by decide +kernel
theorem dX8_kindOfWord_23 : decode cX8_kindOfWord 23 = .ok (.ldc 159, 2) := by decide +kernel
theorem dX8_kindOfWord_25 : decode cX8_kindOfWord 25 = .ok (.invokevirtual 51, 3) := by decide +kernel
theorem dX8_kindOfWord_28 : decode cX8_kindOfWord 28 = .ok (.ifCond .eq 7, 3) := by decide +kernel
theorem dX8_kindOfWord_31 : decode cX8_kindOfWord 31 = .ok (.iconst 3, 1) := by decide +kernel
theorem dX8_kindOfWord_32 : decode cX8_kindOfWord 32 = .ok (.goto 4, 3) := by decide +kernel
theorem dX8_kindOfWord_35 : decode cX8_kindOfWord 35 = .ok (.iconst 0, 1) := by decide +kernel
theorem dX8_kindOfWord_36 : decode cX8_kindOfWord 36 = .ok (.ireturn, 1) := by decide +kernel
theorem dX8_nextNumber_0 : decode cX8_nextNumber 0 = .ok (.aload_n 0, 1) := by decide +kernel
theorem dX8_nextNumber_1 : decode cX8_nextNumber 1 = .ok (.invokevirtual 43, 3) := by decide +kernel
theorem dX8_nextNumber_4 : decode cX8_nextNumber 4 = .ok (.aload_n 0, 1) := by decide +kernel
theorem dX8_nextNumber_5 : decode cX8_nextNumber 5 = .ok (.getfield 46, 3) := by decide +kernel
theorem dX8_nextNumber_8 : decode cX8_nextNumber 8 = .ok (.iconst 2, 1) := by decide +kernel
theorem dX8_nextNumber_9 : decode cX8_nextNumber 9 = .ok (.if_icmp .eq 9, 3) := by decide +kernel
theorem dX8_nextNumber_12 : decode cX8_nextNumber 12 = .ok (.aload_n 0, 1) := by decide +kernel
theorem dX8_nextNumber_13 : decode cX8_nextNumber 13 = .ok (.iconst 2, 1) := by decide +kernel
theorem dX8_nextNumber_14 : decode cX8_nextNumber 14 = .ok (.invokevirtual 64, 3) := by decide +kernel
theorem dX8_nextNumber_17 : decode cX8_nextNumber 17 = .ok (.ireturn, 1) := by decide +kernel
theorem dX8_nextNumber_18 : decode cX8_nextNumber 18 = .ok (.aload_n 0, 1) := by decide +kernel
theorem dX8_nextNumber_19 : decode cX8_nextNumber 19 = .ok (.getfield 76, 3) := by decide +kernel
theorem dX8_nextNumber_22 : decode cX8_nextNumber 22 = .ok (.iload_n 1, 1) := by decide +kernel
theorem dX8_nextNumber_23 : decode cX8_nextNumber 23 = .ok (.if_icmp .lt 11, 3) := by decide +kernel
theorem dX8_nextNumber_26 : decode cX8_nextNumber 26 = .ok (.aload_n 0, 1) := by decide +kernel
theorem dX8_nextNumber_27 : decode cX8_nextNumber 27 = .ok (.getfield 76, 3) := by decide +kernel
theorem dX8_nextNumber_30 : decode cX8_nextNumber 30 = .ok (.iload_n 2, 1) := by decide +kernel
theorem dX8_nextNumber_31 : decode cX8_nextNumber 31 = .ok (.if_icmp .le 11, 3) := by decide +kernel
theorem dX8_nextNumber_34 : decode cX8_nextNumber 34 = .ok (.aload_n 0, 1) := by decide +kernel
theorem dX8_nextNumber_35 : decode cX8_nextNumber 35 = .ok (.iconst 4, 1) := by decide +kernel
theorem dX8_nextNumber_36 : decode cX8_nextNumber 36 = .ok (.invokevirtual 64, 3) := by decide +kernel
theorem dX8_nextNumber_39 : decode cX8_nextNumber 39 = .ok (.ifCond .eq 7, 3) := by decide +kernel
theorem dX8_nextNumber_42 : decode cX8_nextNumber 42 = .ok (.iconst 1, 1) := by decide +kernel
theorem dX8_nextNumber_43 : decode cX8_nextNumber 43 = .ok (.goto 4, 3) := by decide +kernel
theorem dX8_nextNumber_46 : decode cX8_nextNumber 46 = .ok (.iconst 0, 1) := by decide +kernel
theorem dX8_nextNumber_47 : decode cX8_nextNumber 47 = .ok (.ireturn, 1) := by decide +kernel
theorem dX8_readSign_0 : decode cX8_readSign 0 = .ok (.aload_n 0, 1) := by decide +kernel
theorem dX8_readSign_1 : decode cX8_readSign 1 = .ok (.getfield 46, 3) := by decide +kernel
theorem dX8_readSign_4 : decode cX8_readSign 4 = .ok (.iconst 3, 1) := by decide +kernel
theorem dX8_readSign_5 : decode cX8_readSign 5 = .ok (.if_icmp .eq 9, 3) := by decide +kernel
theorem dX8_readSign_8 : decode cX8_readSign 8 = .ok (.aload_n 0, 1) := by decide +kernel
theorem dX8_readSign_9 : decode cX8_readSign 9 = .ok (.iconst 2, 1) := by decide +kernel
theorem dX8_readSign_10 : decode cX8_readSign 10 = .ok (.invokevirtual 64, 3) := by decide +kernel
theorem dX8_readSign_13 : decode cX8_readSign 13 = .ok (.ireturn, 1) := by decide +kernel
theorem dX8_readSign_14 : decode cX8_readSign 14 = .ok (.aload_n 0, 1) := by decide +kernel
theorem dX8_readSign_15 : decode cX8_readSign 15 = .ok (.invokevirtual 43, 3) := by decide +kernel
theorem dX8_readSign_18 : decode cX8_readSign 18 = .ok (.iconst 1, 1) := by decide +kernel
theorem dX8_readSign_19 : decode cX8_readSign 19 = .ok (.ireturn, 1) := by decide +kernel
theorem dX8_stopWith_0 : decode cX8_stopWith 0 = .ok (.aload_n 0, 1) := by decide +kernel
theorem dX8_stopWith_1 : decode cX8_stopWith 1 = .ok (.aload_n 0, 1) := by decide +kernel
theorem dX8_stopWith_2 : decode cX8_stopWith 2 = .ok (.getfield 46, 3) := by decide +kernel
theorem dX8_stopWith_5 : decode cX8_stopWith 5 = .ok (.iconst 4, 1) := by decide +kernel
theorem dX8_stopWith_6 : decode cX8_stopWith 6 = .ok (.if_icmp .ne 7, 3) := by decide +kernel
theorem dX8_stopWith_9 : decode cX8_stopWith 9 = .ok (.iconst 1, 1) := by decide +kernel
theorem dX8_stopWith_10 : decode cX8_stopWith 10 = .ok (.goto 4, 3) := by decide +kernel
theorem dX8_stopWith_13 : decode cX8_stopWith 13 = .ok (.iload_n 1, 1) := by decide +kernel
theorem dX8_stopWith_14 : decode cX8_stopWith 14 = .ok (.putfield 29, 3) := by decide +kernel
theorem dX8_stopWith_17 : decode cX8_stopWith 17 = .ok (.aload_n 0, 1) := by decide +kernel
theorem dX8_stopWith_18 : decode cX8_stopWith 18 = .ok (.aload_n 0, 1) := by decide +kernel
theorem dX8_stopWith_19 : decode cX8_stopWith 19 = .ok (.getfield 161, 3) := by decide +kernel
theorem dX8_stopWith_22 : decode cX8_stopWith 22 = .ok (.putfield 32, 3) := by decide +kernel
theorem dX8_stopWith_25 : decode cX8_stopWith 25 = .ok (.iconst 0, 1) := by decide +kernel
theorem dX8_stopWith_26 : decode cX8_stopWith 26 = .ok (.ireturn, 1) := by decide +kernel
theorem dX8_advance_0 : decode cX8_advance 0 = .ok (.aload_n 0, 1) := by decide +kernel
theorem dX8_advance_1 : decode cX8_advance 1 = .ok (.getfield 35, 3) := by decide +kernel
theorem dX8_advance_4 : decode cX8_advance 4 = .ok (.aload_n 0, 1) := by decide +kernel
theorem dX8_advance_5 : decode cX8_advance 5 = .ok (.getfield 21, 3) := by decide +kernel
theorem dX8_advance_8 : decode cX8_advance 8 = .ok (.if_icmp .ge 42, 3) := by decide +kernel
theorem dX8_advance_11 : decode cX8_advance 11 = .ok (.aload_n 0, 1) := by decide +kernel
theorem dX8_advance_12 : decode cX8_advance 12 = .ok (.aload_n 0, 1) := by decide +kernel
theorem dX8_advance_13 : decode cX8_advance 13 = .ok (.getfield 35, 3) := by decide +kernel
theorem dX8_advance_16 : decode cX8_advance 16 = .ok (.invokevirtual 164, 3) := by decide +kernel
theorem dX8_advance_19 : decode cX8_advance 19 = .ok (.bipush 10, 2) := by decide +kernel
theorem dX8_advance_21 : decode cX8_advance 21 = .ok (.if_icmp .eq 16, 3) := by decide +kernel
theorem dX8_advance_24 : decode cX8_advance 24 = .ok (.aload_n 0, 1) := by decide +kernel
theorem dX8_advance_25 : decode cX8_advance 25 = .ok (.aload_n 0, 1) := by decide +kernel
theorem dX8_advance_26 : decode cX8_advance 26 = .ok (.getfield 35, 3) := by decide +kernel
theorem dX8_advance_29 : decode cX8_advance 29 = .ok (.invokevirtual 164, 3) := by decide +kernel
theorem dX8_advance_32 : decode cX8_advance 32 = .ok (.bipush 32, 2) := by decide +kernel
theorem dX8_advance_34 : decode cX8_advance 34 = .ok (.if_icmp .ne 16, 3) := by decide +kernel
theorem dX8_advance_37 : decode cX8_advance 37 = .ok (.aload_n 0, 1) := by decide +kernel
theorem dX8_advance_38 : decode cX8_advance 38 = .ok (.dup, 1) := by decide +kernel
theorem dX8_advance_39 : decode cX8_advance 39 = .ok (.getfield 35, 3) := by decide +kernel
theorem dX8_advance_42 : decode cX8_advance 42 = .ok (.iconst 1, 1) := by decide +kernel
theorem dX8_advance_43 : decode cX8_advance 43 = .ok (.iadd, 1) := by decide +kernel
theorem dX8_advance_44 : decode cX8_advance 44 = .ok (.putfield 35, 3) := by decide +kernel
theorem dX8_advance_47 : decode cX8_advance 47 = .ok (.goto (-47), 3) := by decide +kernel
theorem dX8_advance_50 : decode cX8_advance 50 = .ok (.aload_n 0, 1) := by decide +kernel
theorem dX8_advance_51 : decode cX8_advance 51 = .ok (.aload_n 0, 1) := by decide +kernel
theorem dX8_advance_52 : decode cX8_advance 52 = .ok (.getfield 35, 3) := by decide +kernel
theorem dX8_advance_55 : decode cX8_advance 55 = .ok (.putfield 161, 3) := by decide +kernel
theorem dX8_advance_58 : decode cX8_advance 58 = .ok (.aload_n 0, 1) := by decide +kernel
theorem dX8_advance_59 : decode cX8_advance 59 = .ok (.aload_n 0, 1) := by decide +kernel
theorem dX8_advance_60 : decode cX8_advance 60 = .ok (.getfield 161, 3) := by decide +kernel
theorem dX8_advance_63 : decode cX8_advance 63 = .ok (.invokevirtual 164, 3) := by decide +kernel
theorem dX8_advance_66 : decode cX8_advance 66 = .ok (.istore_n 1, 1) := by decide +kernel
theorem dX8_advance_67 : decode cX8_advance 67 = .ok (.aload_n 0, 1) := by decide +kernel
theorem dX8_advance_68 : decode cX8_advance 68 = .ok (.getfield 161, 3) := by decide +kernel
theorem dX8_advance_71 : decode cX8_advance 71 = .ok (.aload_n 0, 1) := by decide +kernel
theorem dX8_advance_72 : decode cX8_advance 72 = .ok (.getfield 21, 3) := by decide +kernel
theorem dX8_advance_75 : decode cX8_advance 75 = .ok (.if_icmp .lt 11, 3) := by decide +kernel
theorem dX8_advance_78 : decode cX8_advance 78 = .ok (.aload_n 0, 1) := by decide +kernel
theorem dX8_advance_79 : decode cX8_advance 79 = .ok (.iconst 0, 1) := by decide +kernel
theorem dX8_advance_80 : decode cX8_advance 80 = .ok (.putfield 46, 3) := by decide +kernel
theorem dX8_advance_83 : decode cX8_advance 83 = .ok (.goto 129, 3) := by decide +kernel
theorem dX8_advance_86 : decode cX8_advance 86 = .ok (.iload_n 1, 1) := by decide +kernel
theorem dX8_advance_87 : decode cX8_advance 87 = .ok (.bipush 97, 2) := by decide +kernel
theorem dX8_advance_89 : decode cX8_advance 89 = .ok (.if_icmp .lt 29, 3) := by decide +kernel
theorem dX8_advance_92 : decode cX8_advance 92 = .ok (.iload_n 1, 1) := by decide +kernel
theorem dX8_advance_93 : decode cX8_advance 93 = .ok (.bipush 122, 2) := by decide +kernel
theorem dX8_advance_95 : decode cX8_advance 95 = .ok (.if_icmp .gt 23, 3) := by decide +kernel
theorem dX8_advance_98 : decode cX8_advance 98 = .ok (.aload_n 0, 1) := by decide +kernel
theorem dX8_advance_99 : decode cX8_advance 99 = .ok (.iconst 1, 1) := by decide +kernel
theorem dX8_advance_100 : decode cX8_advance 100 = .ok (.putfield 46, 3) := by decide +kernel
theorem dX8_advance_103 : decode cX8_advance 103 = .ok (.aload_n 0, 1) := by decide +kernel
theorem dX8_advance_104 : decode cX8_advance 104 = .ok (.aload_n 0, 1) := by decide +kernel
theorem dX8_advance_105 : decode cX8_advance 105 = .ok (.bipush 97, 2) := by decide +kernel
theorem dX8_advance_107 : decode cX8_advance 107 = .ok (.bipush 122, 2) := by decide +kernel
theorem dX8_advance_109 : decode cX8_advance 109 = .ok (.invokevirtual 168, 3) := by decide +kernel
theorem dX8_advance_112 : decode cX8_advance 112 = .ok (.putfield 35, 3) := by decide +kernel
theorem dX8_advance_115 : decode cX8_advance 115 = .ok (.goto 97, 3) := by decide +kernel
theorem dX8_advance_118 : decode cX8_advance 118 = .ok (.iload_n 1, 1) := by decide +kernel
theorem dX8_advance_119 : decode cX8_advance 119 = .ok (.bipush 48, 2) := by decide +kernel
theorem dX8_advance_121 : decode cX8_advance 121 = .ok (.if_icmp .lt 66, 3) := by decide +kernel
theorem dX8_advance_124 : decode cX8_advance 124 = .ok (.iload_n 1, 1) := by decide +kernel
theorem dX8_advance_125 : decode cX8_advance 125 = .ok (.bipush 57, 2) := by decide +kernel
theorem dX8_advance_127 : decode cX8_advance 127 = .ok (.if_icmp .gt 60, 3) := by decide +kernel
theorem dX8_advance_130 : decode cX8_advance 130 = .ok (.aload_n 0, 1) := by decide +kernel
theorem dX8_advance_131 : decode cX8_advance 131 = .ok (.aload_n 0, 1) := by decide +kernel
theorem dX8_advance_132 : decode cX8_advance 132 = .ok (.bipush 48, 2) := by decide +kernel
theorem dX8_advance_134 : decode cX8_advance 134 = .ok (.bipush 57, 2) := by decide +kernel
theorem dX8_advance_136 : decode cX8_advance 136 = .ok (.invokevirtual 168, 3) := by decide +kernel
theorem dX8_advance_139 : decode cX8_advance 139 = .ok (.putfield 35, 3) := by decide +kernel
theorem dX8_advance_142 : decode cX8_advance 142 = .ok (.aload_n 0, 1) := by decide +kernel
theorem dX8_advance_143 : decode cX8_advance 143 = .ok (.aload_n 0, 1) := by decide +kernel
theorem dX8_advance_144 : decode cX8_advance 144 = .ok (.getfield 35, 3) := by decide +kernel
theorem dX8_advance_147 : decode cX8_advance 147 = .ok (.aload_n 0, 1) := by decide +kernel
theorem dX8_advance_148 : decode cX8_advance 148 = .ok (.getfield 161, 3) := by decide +kernel
theorem dX8_advance_151 : decode cX8_advance 151 = .ok (.isub, 1) := by decide +kernel
theorem dX8_advance_152 : decode cX8_advance 152 = .ok (.iconst 4, 1) := by decide +kernel
theorem dX8_advance_153 : decode cX8_advance 153 = .ok (.if_icmp .gt 7, 3) := by decide +kernel
theorem dX8_advance_156 : decode cX8_advance 156 = .ok (.iconst 2, 1) := by decide +kernel
theorem dX8_advance_157 : decode cX8_advance 157 = .ok (.goto 4, 3) := by decide +kernel
theorem dX8_advance_160 : decode cX8_advance 160 = .ok (.iconst 4, 1) := by decide +kernel
theorem dX8_advance_161 : decode cX8_advance 161 = .ok (.putfield 46, 3) := by decide +kernel
theorem dX8_advance_164 : decode cX8_advance 164 = .ok (.aload_n 0, 1) := by decide +kernel
theorem dX8_advance_165 : decode cX8_advance 165 = .ok (.aload_n 0, 1) := by decide +kernel
theorem dX8_advance_166 : decode cX8_advance 166 = .ok (.getfield 46, 3) := by decide +kernel
theorem dX8_advance_169 : decode cX8_advance 169 = .ok (.iconst 2, 1) := by decide +kernel
theorem dX8_advance_170 : decode cX8_advance 170 = .ok (.if_icmp .ne 10, 3) := by decide +kernel
theorem dX8_advance_173 : decode cX8_advance 173 = .ok (.aload_n 0, 1) := by decide +kernel
theorem dX8_advance_174 : decode cX8_advance 174 = .ok (.invokevirtual 172, 3) := by decide +kernel
theorem dX8_advance_177 : decode cX8_advance 177 = .ok (.goto 4, 3) := by decide +kernel
theorem dX8_advance_180 : decode cX8_advance 180 = .ok (.iconst 0, 1) := by decide +kernel
theorem dX8_advance_181 : decode cX8_advance 181 = .ok (.putfield 76, 3) := by decide +kernel
theorem dX8_advance_184 : decode cX8_advance 184 = .ok (.goto 28, 3) := by decide +kernel
theorem dX8_advance_187 : decode cX8_advance 187 = .ok (.aload_n 0, 1) := by decide +kernel
theorem dX8_advance_188 : decode cX8_advance 188 = .ok (.iload_n 1, 1) := by decide +kernel
theorem dX8_advance_189 : decode cX8_advance 189 = .ok (.bipush 59, 2) := by decide +kernel
theorem dX8_advance_191 : decode cX8_advance 191 = .ok (.if_icmp .ne 7, 3) := by decide +kernel
theorem dX8_advance_194 : decode cX8_advance 194 = .ok (.iconst 3, 1) := by decide +kernel
theorem dX8_advance_195 : decode cX8_advance 195 = .ok (.goto 4, 3) := by decide +kernel
theorem dX8_advance_198 : decode cX8_advance 198 = .ok (.iconst 4, 1) := by decide +kernel
theorem dX8_advance_199 : decode cX8_advance 199 = .ok (.putfield 46, 3) := by decide +kernel
theorem dX8_advance_202 : decode cX8_advance 202 = .ok (.aload_n 0, 1) := by decide +kernel
theorem dX8_advance_203 : decode cX8_advance 203 = .ok (.aload_n 0, 1) := by decide +kernel
theorem dX8_advance_204 : decode cX8_advance 204 = .ok (.getfield 161, 3) := by decide +kernel
theorem dX8_advance_207 : decode cX8_advance 207 = .ok (.iconst 1, 1) := by decide +kernel
theorem dX8_advance_208 : decode cX8_advance 208 = .ok (.iadd, 1) := by decide +kernel
theorem dX8_advance_209 : decode cX8_advance 209 = .ok (.putfield 35, 3) := by decide +kernel
theorem dX8_advance_212 : decode cX8_advance 212 = .ok (.return_, 1) := by decide +kernel
theorem dX8_endOfRun_0 : decode cX8_endOfRun 0 = .ok (.aload_n 0, 1) := by decide +kernel
theorem dX8_endOfRun_1 : decode cX8_endOfRun 1 = .ok (.getfield 161, 3) := by decide +kernel
theorem dX8_endOfRun_4 : decode cX8_endOfRun 4 = .ok (.istore_n 3, 1) := by decide +kernel
theorem dX8_endOfRun_5 : decode cX8_endOfRun 5 = .ok (.iload_n 3, 1) := by decide +kernel
theorem dX8_endOfRun_6 : decode cX8_endOfRun 6 = .ok (.aload_n 0, 1) := by decide +kernel
theorem dX8_endOfRun_7 : decode cX8_endOfRun 7 = .ok (.getfield 21, 3) := by decide +kernel
theorem dX8_endOfRun_10 : decode cX8_endOfRun 10 = .ok (.if_icmp .ge 27, 3) := by decide +kernel
theorem dX8_endOfRun_13 : decode cX8_endOfRun 13 = .ok (.aload_n 0, 1) := by decide +kernel
theorem dX8_endOfRun_14 : decode cX8_endOfRun 14 = .ok (.iload_n 3, 1) := by decide +kernel
theorem dX8_endOfRun_15 : decode cX8_endOfRun 15 = .ok (.invokevirtual 164, 3) := by decide +kernel
theorem dX8_endOfRun_18 : decode cX8_endOfRun 18 = .ok (.iload_n 1, 1) := by decide +kernel
theorem dX8_endOfRun_19 : decode cX8_endOfRun 19 = .ok (.if_icmp .lt 18, 3) := by decide +kernel
theorem dX8_endOfRun_22 : decode cX8_endOfRun 22 = .ok (.aload_n 0, 1) := by decide +kernel
theorem dX8_endOfRun_23 : decode cX8_endOfRun 23 = .ok (.iload_n 3, 1) := by decide +kernel
theorem dX8_endOfRun_24 : decode cX8_endOfRun 24 = .ok (.invokevirtual 164, 3) := by decide +kernel
theorem dX8_endOfRun_27 : decode cX8_endOfRun 27 = .ok (.iload_n 2, 1) := by decide +kernel
theorem dX8_endOfRun_28 : decode cX8_endOfRun 28 = .ok (.if_icmp .gt 9, 3) := by decide +kernel
theorem dX8_endOfRun_31 : decode cX8_endOfRun 31 = .ok (.iinc 3 1, 3) := by decide +kernel
theorem dX8_endOfRun_34 : decode cX8_endOfRun 34 = .ok (.goto (-29), 3) := by decide +kernel
theorem dX8_endOfRun_37 : decode cX8_endOfRun 37 = .ok (.iload_n 3, 1) := by decide +kernel
theorem dX8_endOfRun_38 : decode cX8_endOfRun 38 = .ok (.ireturn, 1) := by decide +kernel
theorem dX8_valueOfDigits_0 : decode cX8_valueOfDigits 0 = .ok (.iconst 0, 1) := by decide +kernel
theorem dX8_valueOfDigits_1 : decode cX8_valueOfDigits 1 = .ok (.istore_n 1, 1) := by decide +kernel
theorem dX8_valueOfDigits_2 : decode cX8_valueOfDigits 2 = .ok (.aload_n 0, 1) := by decide +kernel
