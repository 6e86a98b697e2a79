theorem dX9_readyAhead_6 : decode cX9_readyAhead 6 = .ok (.iconst 0, 1) := by decide +kernel
theorem dX9_readyAhead_7 : decode cX9_readyAhead 7 = .ok (.istore_n 3, 1) := by decide +kernel
theorem dX9_readyAhead_8 : decode cX9_readyAhead 8 = .ok (.iconst 0, 1) := by decide +kernel
theorem dX9_readyAhead_9 : decode cX9_readyAhead 9 = .ok (.istore 4, 2) := by decide +kernel
theorem dX9_readyAhead_11 : decode cX9_readyAhead 11 = .ok (.iload 4, 2) := by decide +kernel
theorem dX9_readyAhead_13 : decode cX9_readyAhead 13 = .ok (.aload_n 0, 1) := by decide +kernel
theorem dX9_readyAhead_14 : decode cX9_readyAhead 14 = .ok (.getfield 81, 3) := by decide +kernel
theorem dX9_readyAhead_17 : decode cX9_readyAhead 17 = .ok (.if_icmp .ge 61, 3) := by decide +kernel
theorem dX9_readyAhead_20 : decode cX9_readyAhead 20 = .ok (.aload_n 0, 1) := by decide +kernel
theorem dX9_readyAhead_21 : decode cX9_readyAhead 21 = .ok (.iload 4, 2) := by decide +kernel
theorem dX9_readyAhead_23 : decode cX9_readyAhead 23 = .ok (.invokevirtual 128, 3) := by decide +kernel
theorem dX9_readyAhead_26 : decode cX9_readyAhead 26 = .ok (.astore 5, 2) := by decide +kernel
theorem dX9_readyAhead_28 : decode cX9_readyAhead 28 = .ok (.aload_n 2, 1) := by decide +kernel
theorem dX9_readyAhead_29 : decode cX9_readyAhead 29 = .ok (.ifnull 43, 3) := by decide +kernel
theorem dX9_readyAhead_32 : decode cX9_readyAhead 32 = .ok (.aload 5, 2) := by decide +kernel
theorem dX9_readyAhead_34 : decode cX9_readyAhead 34 = .ok (.ifnull 38, 3) := by decide +kernel
theorem dX9_readyAhead_37 : decode cX9_readyAhead 37 = .ok (.aload 5, 2) := by decide +kernel
theorem dX9_readyAhead_39 : decode cX9_readyAhead 39 = .ok (.getfield 143, 3) := by decide +kernel
theorem dX9_readyAhead_42 : decode cX9_readyAhead 42 = .ok (.ifCond .ne 30, 3) := by decide +kernel
theorem dX9_readyAhead_45 : decode cX9_readyAhead 45 = .ok (.aload 5, 2) := by decide +kernel
theorem dX9_readyAhead_47 : decode cX9_readyAhead 47 = .ok (.aload_n 2, 1) := by decide +kernel
theorem dX9_readyAhead_48 : decode cX9_readyAhead 48 = .ok (.invokevirtual 190, 3) := by decide +kernel
theorem dX9_readyAhead_51 : decode cX9_readyAhead 51 = .ok (.ifCond .ne 18, 3) := by decide +kernel
theorem dX9_readyAhead_54 : decode cX9_readyAhead 54 = .ok (.iload 4, 2) := by decide +kernel
theorem dX9_readyAhead_56 : decode cX9_readyAhead 56 = .ok (.iload_n 1, 1) := by decide +kernel
theorem dX9_readyAhead_57 : decode cX9_readyAhead 57 = .ok (.if_icmp .ge 15, 3) := by decide +kernel
theorem dX9_readyAhead_60 : decode cX9_readyAhead 60 = .ok (.aload_n 2, 1) := by decide +kernel
theorem dX9_readyAhead_61 : decode cX9_readyAhead 61 = .ok (.aload 5, 2) := by decide +kernel
theorem dX9_readyAhead_63 : decode cX9_readyAhead 63 = .ok (.invokevirtual 190, 3) := by decide +kernel
theorem dX9_readyAhead_66 : decode cX9_readyAhead 66 = .ok (.ifCond .ne 6, 3) := by decide +kernel
theorem dX9_readyAhead_69 : decode cX9_readyAhead 69 = .ok (.iinc 3 1, 3) := by decide +kernel
theorem dX9_readyAhead_72 : decode cX9_readyAhead 72 = .ok (.iinc 4 1, 3) := by decide +kernel
theorem dX9_readyAhead_75 : decode cX9_readyAhead 75 = .ok (.goto (-64), 3) := by decide +kernel
theorem dX9_readyAhead_78 : decode cX9_readyAhead 78 = .ok (.iload_n 3, 1) := by decide +kernel
theorem dX9_readyAhead_79 : decode cX9_readyAhead 79 = .ok (.ireturn, 1) := by decide +kernel
theorem dX9_ownFault_0 : decode cX9_ownFault 0 = .ok (.aload_n 0, 1) := by decide +kernel
theorem dX9_ownFault_1 : decode cX9_ownFault 1 = .ok (.iload_n 1, 1) := by decide +kernel
theorem dX9_ownFault_2 : decode cX9_ownFault 2 = .ok (.invokevirtual 128, 3) := by decide +kernel
theorem dX9_ownFault_5 : decode cX9_ownFault 5 = .ok (.astore_n 2, 1) := by decide +kernel
theorem dX9_ownFault_6 : decode cX9_ownFault 6 = .ok (.aload_n 2, 1) := by decide +kernel
theorem dX9_ownFault_7 : decode cX9_ownFault 7 = .ok (.ifnonnull 7, 3) := by decide +kernel
theorem dX9_ownFault_10 : decode cX9_ownFault 10 = .ok (.iconst 0, 1) := by decide +kernel
theorem dX9_ownFault_11 : decode cX9_ownFault 11 = .ok (.goto 7, 3) := by decide +kernel
theorem dX9_ownFault_14 : decode cX9_ownFault 14 = .ok (.aload_n 2, 1) := by decide +kernel
theorem dX9_ownFault_15 : decode cX9_ownFault 15 = .ok (.getfield 194, 3) := by decide +kernel
theorem dX9_ownFault_18 : decode cX9_ownFault 18 = .ok (.ireturn, 1) := by decide +kernel
theorem dX9_faultCount_0 : decode cX9_faultCount 0 = .ok (.aload_n 0, 1) := by decide +kernel
theorem dX9_faultCount_1 : decode cX9_faultCount 1 = .ok (.getfield 47, 3) := by decide +kernel
theorem dX9_faultCount_4 : decode cX9_faultCount 4 = .ok (.iload_n 1, 1) := by decide +kernel
theorem dX9_faultCount_5 : decode cX9_faultCount 5 = .ok (.invokevirtual 197, 3) := by decide +kernel
theorem dX9_faultCount_8 : decode cX9_faultCount 8 = .ok (.aload_n 0, 1) := by decide +kernel
theorem dX9_faultCount_9 : decode cX9_faultCount 9 = .ok (.iload_n 1, 1) := by decide +kernel
theorem dX9_faultCount_10 : decode cX9_faultCount 10 = .ok (.invokevirtual 200, 3) := by decide +kernel
theorem dX9_faultCount_13 : decode cX9_faultCount 13 = .ok (.ifCond .ne 7, 3) := by decide +kernel
theorem dX9_faultCount_16 : decode cX9_faultCount 16 = .ok (.iconst 0, 1) := by decide +kernel
theorem dX9_faultCount_17 : decode cX9_faultCount 17 = .ok (.goto 4, 3) := by decide +kernel
theorem dX9_faultCount_20 : decode cX9_faultCount 20 = .ok (.iconst 1, 1) := by decide +kernel
theorem dX9_faultCount_21 : decode cX9_faultCount 21 = .ok (.iadd, 1) := by decide +kernel
theorem dX9_faultCount_22 : decode cX9_faultCount 22 = .ok (.ireturn, 1) := by decide +kernel
theorem dX9_faultNumber_0 : decode cX9_faultNumber 0 = .ok (.aload_n 0, 1) := by decide +kernel
theorem dX9_faultNumber_1 : decode cX9_faultNumber 1 = .ok (.iload_n 1, 1) := by decide +kernel
theorem dX9_faultNumber_2 : decode cX9_faultNumber 2 = .ok (.invokevirtual 200, 3) := by decide +kernel
theorem dX9_faultNumber_5 : decode cX9_faultNumber 5 = .ok (.istore_n 3, 1) := by decide +kernel
theorem dX9_faultNumber_6 : decode cX9_faultNumber 6 = .ok (.iload_n 3, 1) := by decide +kernel
theorem dX9_faultNumber_7 : decode cX9_faultNumber 7 = .ok (.ifCond .eq 9, 3) := by decide +kernel
theorem dX9_faultNumber_10 : decode cX9_faultNumber 10 = .ok (.iload_n 2, 1) := by decide +kernel
theorem dX9_faultNumber_11 : decode cX9_faultNumber 11 = .ok (.ifCond .ne 5, 3) := by decide +kernel
theorem dX9_faultNumber_14 : decode cX9_faultNumber 14 = .ok (.iload_n 3, 1) := by decide +kernel
theorem dX9_faultNumber_15 : decode cX9_faultNumber 15 = .ok (.ireturn, 1) := by decide +kernel
theorem dX9_faultNumber_16 : decode cX9_faultNumber 16 = .ok (.aload_n 0, 1) := by decide +kernel
theorem dX9_faultNumber_17 : decode cX9_faultNumber 17 = .ok (.getfield 47, 3) := by decide +kernel
theorem dX9_faultNumber_20 : decode cX9_faultNumber 20 = .ok (.getfield 203, 3) := by decide +kernel
theorem dX9_faultNumber_23 : decode cX9_faultNumber 23 = .ok (.aload_n 0, 1) := by decide +kernel
theorem dX9_faultNumber_24 : decode cX9_faultNumber 24 = .ok (.getfield 47, 3) := by decide +kernel
theorem dX9_faultNumber_27 : decode cX9_faultNumber 27 = .ok (.iload_n 1, 1) := by decide +kernel
theorem dX9_faultNumber_28 : decode cX9_faultNumber 28 = .ok (.iload_n 3, 1) := by decide +kernel
theorem dX9_faultNumber_29 : decode cX9_faultNumber 29 = .ok (.ifCond .ne 7, 3) := by decide +kernel
theorem dX9_faultNumber_32 : decode cX9_faultNumber 32 = .ok (.iload_n 2, 1) := by decide +kernel
theorem dX9_faultNumber_33 : decode cX9_faultNumber 33 = .ok (.goto 6, 3) := by decide +kernel
theorem dX9_faultNumber_36 : decode cX9_faultNumber 36 = .ok (.iload_n 2, 1) := by decide +kernel
theorem dX9_faultNumber_37 : decode cX9_faultNumber 37 = .ok (.iconst 1, 1) := by decide +kernel
theorem dX9_faultNumber_38 : decode cX9_faultNumber 38 = .ok (.isub, 1) := by decide +kernel
theorem dX9_faultNumber_39 : decode cX9_faultNumber 39 = .ok (.invokevirtual 206, 3) := by decide +kernel
theorem dX9_faultNumber_42 : decode cX9_faultNumber 42 = .ok (.invokevirtual 147, 3) := by decide +kernel
theorem dX9_faultNumber_45 : decode cX9_faultNumber 45 = .ok (.ireturn, 1) := by decide +kernel
theorem dX9_faultThing_0 : decode cX9_faultThing 0 = .ok (.aload_n 0, 1) := by decide +kernel
theorem dX9_faultThing_1 : decode cX9_faultThing 1 = .ok (.iload_n 1, 1) := by decide +kernel
theorem dX9_faultThing_2 : decode cX9_faultThing 2 = .ok (.invokevirtual 200, 3) := by decide +kernel
theorem dX9_faultThing_5 : decode cX9_faultThing 5 = .ok (.istore_n 3, 1) := by decide +kernel
theorem dX9_faultThing_6 : decode cX9_faultThing 6 = .ok (.iload_n 3, 1) := by decide +kernel
theorem dX9_faultThing_7 : decode cX9_faultThing 7 = .ok (.ifCond .eq 11, 3) := by decide +kernel
theorem dX9_faultThing_10 : decode cX9_faultThing 10 = .ok (.iload_n 2, 1) := by decide +kernel
theorem dX9_faultThing_11 : decode cX9_faultThing 11 = .ok (.ifCond .ne 7, 3) := by decide +kernel
theorem dX9_faultThing_14 : decode cX9_faultThing 14 = .ok (.iconst (-1), 1) := by decide +kernel
theorem dX9_faultThing_15 : decode cX9_faultThing 15 = .ok (.goto 22, 3) := by decide +kernel
theorem dX9_faultThing_18 : decode cX9_faultThing 18 = .ok (.aload_n 0, 1) := by decide +kernel
theorem dX9_faultThing_19 : decode cX9_faultThing 19 = .ok (.getfield 47, 3) := by decide +kernel
theorem dX9_faultThing_22 : decode cX9_faultThing 22 = .ok (.iload_n 1, 1) := by decide +kernel
theorem dX9_faultThing_23 : decode cX9_faultThing 23 = .ok (.iload_n 3, 1) := by decide +kernel
theorem dX9_faultThing_24 : decode cX9_faultThing 24 = .ok (.ifCond .ne 7, 3) := by decide +kernel
theorem dX9_faultThing_27 : decode cX9_faultThing 27 = .ok (.iload_n 2, 1) := by decide +kernel
theorem dX9_faultThing_28 : decode cX9_faultThing 28 = .ok (.goto 6, 3) := by decide +kernel
theorem dX9_faultThing_31 : decode cX9_faultThing 31 = .ok (.iload_n 2, 1) := by decide +kernel
theorem dX9_faultThing_32 : decode cX9_faultThing 32 = .ok (.iconst 1, 1) := by decide +kernel
theorem dX9_faultThing_33 : decode cX9_faultThing 33 = .ok (.isub, 1) := by decide +kernel
theorem dX9_faultThing_34 : decode cX9_faultThing 34 = .ok (.invokevirtual 206, 3) := by decide +kernel
theorem dX9_faultThing_37 : decode cX9_faultThing 37 = .ok (.istore 4, 2) := by decide +kernel
theorem dX9_faultThing_39 : decode cX9_faultThing 39 = .ok (.iload 4, 2) := by decide +kernel
theorem dX9_faultThing_41 : decode cX9_faultThing 41 = .ok (.ifCond .ge 7, 3) := by decide +kernel
theorem dX9_faultThing_44 : decode cX9_faultThing 44 = .ok (.iconst (-1), 1) := by decide +kernel
theorem dX9_faultThing_45 : decode cX9_faultThing 45 = .ok (.goto 15, 3) := by decide +kernel
theorem dX9_faultThing_48 : decode cX9_faultThing 48 = .ok (.aload_n 0, 1) := by decide +kernel
theorem dX9_faultThing_49 : decode cX9_faultThing 49 = .ok (.getfield 47, 3) := by decide +kernel
theorem dX9_faultThing_52 : decode cX9_faultThing 52 = .ok (.getfield 209, 3) := by decide +kernel
theorem dX9_faultThing_55 : decode cX9_faultThing 55 = .ok (.iload 4, 2) := by decide +kernel
theorem dX9_faultThing_57 : decode cX9_faultThing 57 = .ok (.invokevirtual 147, 3) := by decide +kernel
theorem dX9_faultThing_60 : decode cX9_faultThing 60 = .ok (.ireturn, 1) := by decide +kernel
theorem dX10_init_0 : decode cX10_init 0 = .ok (.aload_n 0, 1) := by decide +kernel
theorem dX10_init_1 : decode cX10_init 1 = .ok (.invokespecial 3, 3) := by decide +kernel
theorem dX10_init_4 : decode cX10_init 4 = .ok (.aload_n 0, 1) := by decide +kernel
theorem dX10_init_5 : decode cX10_init 5 = .ok (.new 9, 3) := by decide +kernel
theorem dX10_init_8 : decode cX10_init 8 = .ok (.dup, 1) := by decide +kernel
theorem dX10_init_9 : decode cX10_init 9 = .ok (.invokespecial 11, 3) := by decide +kernel
theorem dX10_init_12 : decode cX10_init 12 = .ok (.putfield 12, 3) := by decide +kernel
theorem dX10_init_15 : decode cX10_init 15 = .ok (.aload_n 0, 1) := by decide +kernel
theorem dX10_init_16 : decode cX10_init 16 = .ok (.aload_n 0, 1) := by decide +kernel
theorem dX10_init_17 : decode cX10_init 17 = .ok (.getfield 12, 3) := by decide +kernel
theorem dX10_init_20 : decode cX10_init 20 = .ok (.getfield 18, 3) := by decide +kernel
theorem dX10_init_23 : decode cX10_init 23 = .ok (.putfield 22, 3) := by decide +kernel
theorem dX10_init_26 : decode cX10_init 26 = .ok (.aload_n 0, 1) := by decide +kernel
theorem dX10_init_27 : decode cX10_init 27 = .ok (.new 23, 3) := by decide +kernel
theorem dX10_init_30 : decode cX10_init 30 = .ok (.dup, 1) := by decide +kernel
theorem dX10_init_31 : decode cX10_init 31 = .ok (.invokespecial 25, 3) := by decide +kernel
theorem dX10_init_34 : decode cX10_init 34 = .ok (.putfield 26, 3) := by decide +kernel
theorem dX10_init_37 : decode cX10_init 37 = .ok (.aload_n 0, 1) := by decide +kernel
theorem dX10_init_38 : decode cX10_init 38 = .ok (.aload_n 0, 1) := by decide +kernel
theorem dX10_init_39 : decode cX10_init 39 = .ok (.getfield 26, 3) := by decide +kernel
theorem dX10_init_42 : decode cX10_init 42 = .ok (.getfield 30, 3) := by decide +kernel
theorem dX10_init_45 : decode cX10_init 45 = .ok (.putfield 33, 3) := by decide +kernel
theorem dX10_init_48 : decode cX10_init 48 = .ok (.aload_n 0, 1) := by decide +kernel
theorem dX10_init_49 : decode cX10_init 49 = .ok (.iconst 4, 1) := by decide +kernel
theorem dX10_init_50 : decode cX10_init 50 = .ok (.anewarray 34, 3) := by decide +kernel
theorem dX10_init_53 : decode cX10_init 53 = .ok (.putfield 36, 3) := by decide +kernel
theorem dX10_init_56 : decode cX10_init 56 = .ok (.aload_n 0, 1) := by decide +kernel
theorem dX10_init_57 : decode cX10_init 57 = .ok (.new 40, 3) := by decide +kernel
theorem dX10_init_60 : decode cX10_init 60 = .ok (.dup, 1) := by decide +kernel
theorem dX10_init_61 : decode cX10_init 61 = .ok (.invokespecial 42, 3) := by decide +kernel
theorem dX10_init_64 : decode cX10_init 64 = .ok (.putfield 43, 3) := by decide +kernel
theorem dX10_init_67 : decode cX10_init 67 = .ok (.aload_n 0, 1) := by decide +kernel
theorem dX10_init_68 : decode cX10_init 68 = .ok (.aload_n 0, 1) := by decide +kernel
theorem dX10_init_69 : decode cX10_init 69 = .ok (.getfield 43, 3) := by decide +kernel
theorem dX10_init_72 : decode cX10_init 72 = .ok (.getfield 47, 3) := by decide +kernel
theorem dX10_init_75 : decode cX10_init 75 = .ok (.putfield 51, 3) := by decide +kernel
theorem dX10_init_78 : decode cX10_init 78 = .ok (.iconst 0, 1) := by decide +kernel
theorem dX10_init_79 : decode cX10_init 79 = .ok (.istore_n 1, 1) := by decide +kernel
theorem dX10_init_80 : decode cX10_init 80 = .ok (.iload_n 1, 1) := by decide +kernel
theorem dX10_init_81 : decode cX10_init 81 = .ok (.aload_n 0, 1) := by decide +kernel
theorem dX10_init_82 : decode cX10_init 82 = .ok (.getfield 36, 3) := by decide +kernel
theorem dX10_init_85 : decode cX10_init 85 = .ok (.arraylength, 1) := by decide +kernel
theorem dX10_init_86 : decode cX10_init 86 = .ok (.if_icmp .ge 35, 3) := by decide +kernel
theorem dX10_init_89 : decode cX10_init 89 = .ok (.aload_n 0, 1) := by decide +kernel
theorem dX10_init_90 : decode cX10_init 90 = .ok (.getfield 36, 3) := by decide +kernel
theorem dX10_init_93 : decode cX10_init 93 = .ok (.iload_n 1, 1) := by decide +kernel
theorem dX10_init_94 : decode cX10_init 94 = .ok (.new 34, 3) := by decide +kernel
theorem dX10_init_97 : decode cX10_init 97 = .ok (.dup, 1) := by decide +kernel
theorem dX10_init_98 : decode cX10_init 98 = .ok (.bipush 40, 2) := by decide +kernel
theorem dX10_init_100 : decode cX10_init 100 = .ok (.invokespecial 52, 3) := by decide +kernel
theorem dX10_init_103 : decode cX10_init 103 = .ok (.aastore, 1) := by decide +kernel
theorem dX10_init_104 : decode cX10_init 104 = .ok (.aload_n 0, 1) := by decide +kernel
theorem dX10_init_105 : decode cX10_init 105 = .ok (.getfield 36, 3) := by decide +kernel
theorem dX10_init_108 : decode cX10_init 108 = .ok (.iload_n 1, 1) := by decide +kernel
theorem dX10_init_109 : decode cX10_init 109 = .ok (.aaload, 1) := by decide +kernel
theorem dX10_init_110 : decode cX10_init 110 = .ok (.bipush (-11), 2) := by decide +kernel
theorem dX10_init_112 : decode cX10_init 112 = .ok (.putfield 55, 3) := by decide +kernel
theorem dX10_init_115 : decode cX10_init 115 = .ok (.iinc 1 1, 3) := by decide +kernel
theorem dX10_init_118 : decode cX10_init 118 = .ok (.goto (-38), 3) := by decide +kernel
theorem dX10_init_121 : decode cX10_init 121 = .ok (.return_, 1) := by decide +kernel
theorem dX10_feed_0 : decode cX10_feed 0 = .ok (.iload_n 1, 1) := by decide +kernel
theorem dX10_feed_1 : decode cX10_feed 1 = .ok (.iconst 1, 1) := by decide +kernel
theorem dX10_feed_2 : decode cX10_feed 2 = .ok (.if_icmp .lt 9, 3) := by decide +kernel
theorem dX10_feed_5 : decode cX10_feed 5 = .ok (.iload_n 1, 1) := by decide +kernel
theorem dX10_feed_6 : decode cX10_feed 6 = .ok (.bipush 127, 2) := by decide +kernel
theorem dX10_feed_8 : decode cX10_feed 8 = .ok (.if_icmp .le 6, 3) := by decide +kernel
theorem dX10_feed_11 : decode cX10_feed 11 = .ok (.bipush (-2), 2) := by decide +kernel
theorem dX10_feed_13 : decode cX10_feed 13 = .ok (.ireturn, 1) := by decide +kernel
theorem dX10_feed_14 : decode cX10_feed 14 = .ok (.aload_n 0, 1) := by decide +kernel
theorem dX10_feed_15 : decode cX10_feed 15 = .ok (.getfield 22, 3) := by decide +kernel
theorem dX10_feed_18 : decode cX10_feed 18 = .ok (.iload_n 1, 1) := by decide +kernel
theorem dX10_feed_19 : decode cX10_feed 19 = .ok (.invokevirtual 59, 3) := by decide +kernel
theorem dX10_feed_22 : decode cX10_feed 22 = .ok (.ifCond .eq 13, 3) := by decide +kernel
theorem dX10_feed_25 : decode cX10_feed 25 = .ok (.aload_n 0, 1) := by decide +kernel
theorem dX10_feed_26 : decode cX10_feed 26 = .ok (.getfield 22, 3) := by decide +kernel
theorem dX10_feed_29 : decode cX10_feed 29 = .ok (.getfield 55, 3) := by decide +kernel
theorem dX10_feed_32 : decode cX10_feed 32 = .ok (.goto 5, 3) := by decide +kernel
theorem dX10_feed_35 : decode cX10_feed 35 = .ok (.bipush (-4), 2) := by decide +kernel
theorem dX10_feed_37 : decode cX10_feed 37 = .ok (.ireturn, 1) := by decide +kernel
theorem dX10_clear_0 : decode cX10_clear 0 = .ok (.aload_n 0, 1) := by decide +kernel
theorem dX10_clear_1 : decode cX10_clear 1 = .ok (.getfield 22, 3) := by decide +kernel
theorem dX10_clear_4 : decode cX10_clear 4 = .ok (.getfield 55, 3) := by decide +kernel
theorem dX10_clear_7 : decode cX10_clear 7 = .ok (.istore_n 1, 1) := by decide +kernel
theorem dX10_clear_8 : decode cX10_clear 8 = .ok (.aload_n 0, 1) := by decide +kernel
theorem dX10_clear_9 : decode cX10_clear 9 = .ok (.getfield 22, 3) := by decide +kernel
theorem dX10_clear_12 : decode cX10_clear 12 = .ok (.iconst 0, 1) := by decide +kernel
theorem dX10_clear_13 : decode cX10_clear 13 = .ok (.putfield 55, 3) := by decide +kernel
theorem dX10_clear_16 : decode cX10_clear 16 = .ok (.iload_n 1, 1) := by decide +kernel
theorem dX10_clear_17 : decode cX10_clear 17 = .ok (.ireturn, 1) := by decide +kernel
theorem dX10_open_0 : decode cX10_open 0 = .ok (.aload_n 0, 1) := by decide +kernel
theorem dX10_open_1 : decode cX10_open 1 = .ok (.getfield 51, 3) := by decide +kernel
theorem dX10_open_4 : decode cX10_open 4 = .ok (.iload_n 1, 1) := by decide +kernel
theorem dX10_open_5 : decode cX10_open 5 = .ok (.invokevirtual 95, 3) := by decide +kernel
theorem dX10_open_8 : decode cX10_open 8 = .ok (.astore_n 2, 1) := by decide +kernel
theorem dX10_open_9 : decode cX10_open 9 = .ok (.aload_n 2, 1) := by decide +kernel
theorem dX10_open_10 : decode cX10_open 10 = .ok (.ifnonnull 5, 3) := by decide +kernel
theorem dX10_open_13 : decode cX10_open 13 = .ok (.iconst (-1), 1) := by decide +kernel
theorem dX10_open_14 : decode cX10_open 14 = .ok (.ireturn, 1) := by decide +kernel
theorem dX10_open_15 : decode cX10_open 15 = .ok (.aload_n 2, 1) := by decide +kernel
theorem dX10_open_16 : decode cX10_open 16 = .ok (.getfield 99, 3) := by decide +kernel
theorem dX10_open_19 : decode cX10_open 19 = .ok (.ifCond .eq 6, 3) := by decide +kernel
theorem dX10_open_22 : decode cX10_open 22 = .ok (.bipush (-3), 2) := by decide +kernel
theorem dX10_open_24 : decode cX10_open 24 = .ok (.ireturn, 1) := by decide +kernel
theorem dX10_open_25 : decode cX10_open 25 = .ok (.aload_n 0, 1) := by decide +kernel
theorem dX10_open_26 : decode cX10_open 26 = .ok (.getfield 51, 3) := by decide +kernel
theorem dX10_open_29 : decode cX10_open 29 = .ok (.invokevirtual 104, 3) := by decide +kernel
theorem dX10_open_32 : decode cX10_open 32 = .ok (.ifCond .eq 8, 3) := by decide +kernel
theorem dX10_open_35 : decode cX10_open 35 = .ok (.bipush (-4), 2) := by decide +kernel
theorem dX10_open_37 : decode cX10_open 37 = .ok (.goto 13, 3) := by decide +kernel
theorem dX10_open_40 : decode cX10_open 40 = .ok (.aload_n 0, 1) := by decide +kernel
theorem dX10_open_41 : decode cX10_open 41 = .ok (.getfield 51, 3) := by decide +kernel
theorem dX10_open_44 : decode cX10_open 44 = .ok (.iload_n 1, 1) := by decide +kernel
theorem dX10_open_45 : decode cX10_open 45 = .ok (.bipush (-5), 2) := by decide +kernel
theorem dX10_open_47 : decode cX10_open 47 = .ok (.invokevirtual 108, 3) := by decide +kernel
theorem dX10_open_50 : decode cX10_open 50 = .ok (.ireturn, 1) := by decide +kernel
theorem dX10_take_0 : decode cX10_take 0 = .ok (.aload_n 0, 1) := by decide +kernel
theorem dX10_take_1 : decode cX10_take 1 = .ok (.getfield 51, 3) := by decide +kernel
theorem dX10_take_4 : decode cX10_take 4 = .ok (.iload_n 1, 1) := by decide +kernel
theorem dX10_take_5 : decode cX10_take 5 = .ok (.invokevirtual 95, 3) := by decide +kernel
theorem dX10_take_8 : decode cX10_take 8 = .ok (.astore_n 2, 1) := by decide +kernel
theorem dX10_take_9 : decode cX10_take 9 = .ok (.aload_n 2, 1) := by decide +kernel
theorem dX10_take_10 : decode cX10_take 10 = .ok (.ifnonnull 5, 3) := by decide +kernel
theorem dX10_take_13 : decode cX10_take 13 = .ok (.iconst (-1), 1) := by decide +kernel
theorem dX10_take_14 : decode cX10_take 14 = .ok (.ireturn, 1) := by decide +kernel
theorem dX10_take_15 : decode cX10_take 15 = .ok (.aload_n 2, 1) := by decide +kernel
theorem dX10_take_16 : decode cX10_take 16 = .ok (.getfield 99, 3) := by decide +kernel
theorem dX10_take_19 : decode cX10_take 19 = .ok (.ifCond .eq 6, 3) := by decide +kernel
theorem dX10_take_22 : decode cX10_take 22 = .ok (.bipush (-3), 2) := by decide +kernel
theorem dX10_take_24 : decode cX10_take 24 = .ok (.ireturn, 1) := by decide +kernel
theorem dX10_take_25 : decode cX10_take 25 = .ok (.aload_n 0, 1) := by decide +kernel
theorem dX10_take_26 : decode cX10_take 26 = .ok (.getfield 12, 3) := by decide +kernel
theorem dX10_take_29 : decode cX10_take 29 = .ok (.invokevirtual 112, 3) := by decide +kernel
theorem dX10_take_32 : decode cX10_take 32 = .ok (.astore_n 3, 1) := by decide +kernel
theorem dX10_take_33 : decode cX10_take 33 = .ok (.aload_n 0, 1) := by decide +kernel
theorem dX10_take_34 : decode cX10_take 34 = .ok (.getfield 22, 3) := by decide +kernel
theorem dX10_take_37 : decode cX10_take 37 = .ok (.iconst 0, 1) := by decide +kernel
theorem dX10_take_38 : decode cX10_take 38 = .ok (.putfield 55, 3) := by decide +kernel
theorem dX10_take_41 : decode cX10_take 41 = .ok (.aload_n 3, 1) := by decide +kernel
theorem dX10_take_42 : decode cX10_take 42 = .ok (.ifnonnull 14, 3) := by decide +kernel
theorem dX10_take_45 : decode cX10_take 45 = .ok (.bipush (-100), 2) := by decide +kernel
theorem dX10_take_47 : decode cX10_take 47 = .ok (.aload_n 0, 1) := by decide +kernel
theorem dX10_take_48 : decode cX10_take 48 = .ok (.getfield 12, 3) := by decide +kernel
theorem dX10_take_51 : decode cX10_take 51 = .ok (.getfield 116, 3) := by decide +kernel
theorem dX10_take_54 : decode cX10_take 54 = .ok (.isub, 1) := by decide +kernel
theorem dX10_take_55 : decode cX10_take 55 = .ok (.ireturn, 1) := by decide +kernel
theorem dX10_take_56 : decode cX10_take 56 = .ok (.aload_n 0, 1) := by decide +kernel
theorem dX10_take_57 : decode cX10_take 57 = .ok (.getfield 51, 3) := by decide +kernel
theorem dX10_take_60 : decode cX10_take 60 = .ok (.invokevirtual 119, 3) := by decide +kernel
theorem dX10_take_63 : decode cX10_take 63 = .ok (.ifCond .eq 6, 3) := by decide +kernel
theorem dX10_take_66 : decode cX10_take 66 = .ok (.bipush (-4), 2) := by decide +kernel
theorem dX10_take_68 : decode cX10_take 68 = .ok (.ireturn, 1) := by decide +kernel
theorem dX10_take_69 : decode cX10_take 69 = .ok (.aload_n 0, 1) := by decide +kernel
theorem dX10_take_70 : decode cX10_take 70 = .ok (.getfield 51, 3) := by decide +kernel
theorem dX10_take_73 : decode cX10_take 73 = .ok (.aload_n 3, 1) := by decide +kernel
theorem dX10_take_74 : decode cX10_take 74 = .ok (.getfield 122, 3) := by decide +kernel
theorem dX10_take_77 : decode cX10_take 77 = .ok (.invokevirtual 128, 3) := by decide +kernel
theorem dX10_take_80 : decode cX10_take 80 = .ok (.ifCond .lt 8, 3) := by decide +kernel
theorem dX10_take_83 : decode cX10_take 83 = .ok (.bipush (-3), 2) := by decide +kernel
theorem dX10_take_85 : decode cX10_take 85 = .ok (.goto 12, 3) := by decide +kernel
theorem dX10_take_88 : decode cX10_take 88 = .ok (.aload_n 0, 1) := by decide +kernel
theorem dX10_take_89 : decode cX10_take 89 = .ok (.getfield 51, 3) := by decide +kernel
theorem dX10_take_92 : decode cX10_take 92 = .ok (.aload_n 3, 1) := by decide +kernel
theorem dX10_take_93 : decode cX10_take 93 = .ok (.iload_n 1, 1) := by decide +kernel
theorem dX10_take_94 : decode cX10_take 94 = .ok (.invokevirtual 132, 3) := by decide +kernel
theorem dX10_take_97 : decode cX10_take 97 = .ok (.ireturn, 1) := by decide +kernel
theorem dX10_close_0 : decode cX10_close 0 = .ok (.aload_n 0, 1) := by decide +kernel
theorem dX10_close_1 : decode cX10_close 1 = .ok (.getfield 51, 3) := by decide +kernel
theorem dX10_close_4 : decode cX10_close 4 = .ok (.iload_n 1, 1) := by decide +kernel
theorem dX10_close_5 : decode cX10_close 5 = .ok (.invokevirtual 63, 3) := by decide +kernel
theorem dX10_close_8 : decode cX10_close 8 = .ok (.astore_n 2, 1) := by decide +kernel
theorem dX10_close_9 : decode cX10_close 9 = .ok (.aload_n 2, 1) := by decide +kernel
theorem dX10_close_10 : decode cX10_close 10 = .ok (.ifnonnull 5, 3) := by decide +kernel
theorem dX10_close_13 : decode cX10_close 13 = .ok (.iconst (-1), 1) := by decide +kernel
theorem dX10_close_14 : decode cX10_close 14 = .ok (.ireturn, 1) := by decide +kernel
theorem dX10_close_15 : decode cX10_close 15 = .ok (.aload_n 2, 1) := by decide +kernel
theorem dX10_close_16 : decode cX10_close 16 = .ok (.getfield 136, 3) := by decide +kernel
theorem dX10_close_19 : decode cX10_close 19 = .ok (.ifCond .eq 8, 3) := by decide +kernel
theorem dX10_close_22 : decode cX10_close 22 = .ok (.bipush (-3), 2) := by decide +kernel
theorem dX10_close_24 : decode cX10_close 24 = .ok (.goto 11, 3) := by decide +kernel
theorem dX10_close_27 : decode cX10_close 27 = .ok (.aload_n 0, 1) := by decide +kernel
theorem dX10_close_28 : decode cX10_close 28 = .ok (.getfield 43, 3) := by decide +kernel
theorem dX10_close_31 : decode cX10_close 31 = .ok (.iload_n 1, 1) := by decide +kernel
theorem dX10_close_32 : decode cX10_close 32 = .ok (.invokevirtual 137, 3) := by decide +kernel
theorem dX10_close_35 : decode cX10_close 35 = .ok (.ireturn, 1) := by decide +kernel
theorem dX10_shut_0 : decode cX10_shut 0 = .ok (.aload_n 0, 1) := by decide +kernel
theorem dX10_shut_1 : decode cX10_shut 1 = .ok (.getfield 51, 3) := by decide +kernel
theorem dX10_shut_4 : decode cX10_shut 4 = .ok (.iload_n 1, 1) := by decide +kernel
theorem dX10_shut_5 : decode cX10_shut 5 = .ok (.invokevirtual 95, 3) := by decide +kernel
theorem dX10_shut_8 : decode cX10_shut 8 = .ok (.astore_n 2, 1) := by decide +kernel
theorem dX10_shut_9 : decode cX10_shut 9 = .ok (.aload_n 2, 1) := by decide +kernel
theorem dX10_shut_10 : decode cX10_shut 10 = .ok (.ifnonnull 5, 3) := by decide +kernel
theorem dX10_shut_13 : decode cX10_shut 13 = .ok (.iconst (-1), 1) := by decide +kernel
theorem dX10_shut_14 : decode cX10_shut 14 = .ok (.ireturn, 1) := by decide +kernel
theorem dX10_shut_15 : decode cX10_shut 15 = .ok (.aload_n 2, 1) := by decide +kernel
theorem dX10_shut_16 : decode cX10_shut 16 = .ok (.getfield 99, 3) := by decide +kernel
theorem dX10_shut_19 : decode cX10_shut 19 = .ok (.ifCond .eq 8, 3) := by decide +kernel
theorem dX10_shut_22 : decode cX10_shut 22 = .ok (.bipush (-3), 2) := by decide +kernel
theorem dX10_shut_24 : decode cX10_shut 24 = .ok (.goto 14, 3) := by decide +kernel
theorem dX10_shut_27 : decode cX10_shut 27 = .ok (.aload_n 0, 1) := by decide +kernel
theorem dX10_shut_28 : decode cX10_shut 28 = .ok (.getfield 43, 3) := by decide +kernel
theorem dX10_shut_31 : decode cX10_shut 31 = .ok (.bipush 100, 2) := by decide +kernel
theorem dX10_shut_33 : decode cX10_shut 33 = .ok (.iload_n 1, 1) := by decide +kernel
theorem dX10_shut_34 : decode cX10_shut 34 = .ok (.iadd, 1) := by decide +kernel
theorem dX10_shut_35 : decode cX10_shut 35 = .ok (.invokevirtual 137, 3) := by decide +kernel
theorem dX10_shut_38 : decode cX10_shut 38 = .ok (.ireturn, 1) := by decide +kernel
theorem dX10_move_0 : decode cX10_move 0 = .ok (.aload_n 0, 1) := by decide +kernel
theorem dX10_move_1 : decode cX10_move 1 = .ok (.getfield 51, 3) := by decide +kernel
theorem dX10_move_4 : decode cX10_move 4 = .ok (.iload_n 1, 1) := by decide +kernel
theorem dX10_move_5 : decode cX10_move 5 = .ok (.invokevirtual 63, 3) := by decide +kernel
theorem dX10_move_8 : decode cX10_move 8 = .ok (.astore_n 3, 1) := by decide +kernel
theorem dX10_move_9 : decode cX10_move 9 = .ok (.aload_n 0, 1) := by decide +kernel
theorem dX10_move_10 : decode cX10_move 10 = .ok (.getfield 51, 3) := by decide +kernel
theorem dX10_move_13 : decode cX10_move 13 = .ok (.iload_n 2, 1) := by decide +kernel
theorem dX10_move_14 : decode cX10_move 14 = .ok (.invokevirtual 95, 3) := by decide +kernel
theorem dX10_move_17 : decode cX10_move 17 = .ok (.astore 4, 2) := by decide +kernel
theorem dX10_move_19 : decode cX10_move 19 = .ok (.aload_n 3, 1) := by decide +kernel
theorem dX10_move_20 : decode cX10_move 20 = .ok (.ifnull 8, 3) := by decide +kernel
theorem dX10_move_23 : decode cX10_move 23 = .ok (.aload 4, 2) := by decide +kernel
theorem dX10_move_25 : decode cX10_move 25 = .ok (.ifnonnull 5, 3) := by decide +kernel
theorem dX10_move_28 : decode cX10_move 28 = .ok (.iconst (-1), 1) := by decide +kernel
theorem dX10_move_29 : decode cX10_move 29 = .ok (.ireturn, 1) := by decide +kernel
theorem dX10_move_30 : decode cX10_move 30 = .ok (.aload_n 3, 1) := by decide +kernel
theorem dX10_move_31 : decode cX10_move 31 = .ok (.getfield 136, 3) := by decide +kernel
theorem dX10_move_34 : decode cX10_move 34 = .ok (.ifCond .ne 11, 3) := by decide +kernel
theorem dX10_move_37 : decode cX10_move 37 = .ok (.aload 4, 2) := by decide +kernel
theorem dX10_move_39 : decode cX10_move 39 = .ok (.getfield 99, 3) := by decide +kernel
theorem dX10_move_42 : decode cX10_move 42 = .ok (.ifCond .eq 6, 3) := by decide +kernel
theorem dX10_move_45 : decode cX10_move 45 = .ok (.bipush (-3), 2) := by decide +kernel
theorem dX10_move_47 : decode cX10_move 47 = .ok (.ireturn, 1) := by decide +kernel
theorem dX10_move_48 : decode cX10_move 48 = .ok (.aload_n 0, 1) := by decide +kernel
theorem dX10_move_49 : decode cX10_move 49 = .ok (.getfield 51, 3) := by decide +kernel
theorem dX10_move_52 : decode cX10_move 52 = .ok (.iload_n 1, 1) := by decide +kernel
theorem dX10_move_53 : decode cX10_move 53 = .ok (.iload_n 2, 1) := by decide +kernel
theorem dX10_move_54 : decode cX10_move 54 = .ok (.invokevirtual 140, 3) := by decide +kernel
theorem dX10_move_57 : decode cX10_move 57 = .ok (.aload_n 0, 1) := by decide +kernel
theorem dX10_move_58 : decode cX10_move 58 = .ok (.getfield 51, 3) := by decide +kernel
theorem dX10_move_61 : decode cX10_move 61 = .ok (.iload_n 2, 1) := by decide +kernel
theorem dX10_move_62 : decode cX10_move 62 = .ok (.invokevirtual 144, 3) := by decide +kernel
theorem dX10_move_65 : decode cX10_move 65 = .ok (.ireturn, 1) := by decide +kernel
theorem dX10_counter_0 : decode cX10_counter 0 = .ok (.aload_n 0, 1) := by decide +kernel
theorem dX10_counter_1 : decode cX10_counter 1 = .ok (.getfield 51, 3) := by decide +kernel
theorem dX10_counter_4 : decode cX10_counter 4 = .ok (.getfield 147, 3) := by decide +kernel
theorem dX10_counter_7 : decode cX10_counter 7 = .ok (.iload_n 1, 1) := by decide +kernel
theorem dX10_counter_8 : decode cX10_counter 8 = .ok (.invokevirtual 88, 3) := by decide +kernel
theorem dX10_counter_11 : decode cX10_counter 11 = .ok (.ifCond .eq 18, 3) := by decide +kernel
theorem dX10_counter_14 : decode cX10_counter 14 = .ok (.aload_n 0, 1) := by decide +kernel
theorem dX10_counter_15 : decode cX10_counter 15 = .ok (.getfield 51, 3) := by decide +kernel
theorem dX10_counter_18 : decode cX10_counter 18 = .ok (.getfield 147, 3) := by decide +kernel
theorem dX10_counter_21 : decode cX10_counter 21 = .ok (.iload_n 1, 1) := by decide +kernel
theorem dX10_counter_22 : decode cX10_counter 22 = .ok (.invokevirtual 91, 3) := by decide +kernel
theorem dX10_counter_25 : decode cX10_counter 25 = .ok (.i2l, 1) := by decide +kernel
theorem dX10_counter_26 : decode cX10_counter 26 = .ok (.goto 6, 3) := by decide +kernel
theorem dX10_counter_29 : decode cX10_counter 29 = .ok (.ldc2_w 153, 3) := by decide +kernel
theorem dX10_counter_32 : decode cX10_counter 32 = .ok (.lreturn, 1) := by decide +kernel
theorem dX10_scope_0 : decode cX10_scope 0 = .ok (.aload_n 0, 1) := by decide +kernel
theorem dX10_scope_1 : decode cX10_scope 1 = .ok (.getfield 51, 3) := by decide +kernel
theorem dX10_scope_4 : decode cX10_scope 4 = .ok (.iload_n 1, 1) := by decide +kernel
theorem dX10_scope_5 : decode cX10_scope 5 = .ok (.invokevirtual 95, 3) := by decide +kernel
theorem dX10_scope_8 : decode cX10_scope 8 = .ok (.astore_n 3, 1) := by decide +kernel
theorem dX10_scope_9 : decode cX10_scope 9 = .ok (.aload_n 3, 1) := by decide +kernel
theorem dX10_scope_10 : decode cX10_scope 10 = .ok (.ifnonnull 5, 3) := by decide +kernel
theorem dX10_scope_13 : decode cX10_scope 13 = .ok (.iconst (-1), 1) := by decide +kernel
theorem dX10_scope_14 : decode cX10_scope 14 = .ok (.ireturn, 1) := by decide +kernel
theorem dX10_scope_15 : decode cX10_scope 15 = .ok (.iload_n 2, 1) := by decide +kernel
theorem dX10_scope_16 : decode cX10_scope 16 = .ok (.tableswitch 82 0 5 #[40, 45, 50, 59, 68, 77], 40) := by decide +kernel
theorem dX10_scope_56 : decode cX10_scope 56 = .ok (.aload_n 3, 1) := by decide +kernel
theorem dX10_scope_57 : decode cX10_scope 57 = .ok (.getfield 99, 3) := by decide +kernel
theorem dX10_scope_60 : decode cX10_scope 60 = .ok (.ireturn, 1) := by decide +kernel
theorem dX10_scope_61 : decode cX10_scope 61 = .ok (.aload_n 3, 1) := by decide +kernel
theorem dX10_scope_62 : decode cX10_scope 62 = .ok (.getfield 155, 3) := by decide +kernel
theorem dX10_scope_65 : decode cX10_scope 65 = .ok (.ireturn, 1) := by decide +kernel
theorem dX10_scope_66 : decode cX10_scope 66 = .ok (.aload_n 0, 1) := by decide +kernel
theorem dX10_scope_67 : decode cX10_scope 67 = .ok (.getfield 51, 3) := by decide +kernel
theorem dX10_scope_70 : decode cX10_scope 70 = .ok (.iload_n 1, 1) := by decide +kernel
theorem dX10_scope_71 : decode cX10_scope 71 = .ok (.invokevirtual 144, 3) := by decide +kernel
theorem dX10_scope_74 : decode cX10_scope 74 = .ok (.ireturn, 1) := by decide +kernel
theorem dX10_scope_75 : decode cX10_scope 75 = .ok (.aload_n 0, 1) := by decide +kernel
theorem dX10_scope_76 : decode cX10_scope 76 = .ok (.getfield 51, 3) := by decide +kernel
theorem dX10_scope_79 : decode cX10_scope 79 = .ok (.iload_n 1, 1) := by decide +kernel
theorem dX10_scope_80 : decode cX10_scope 80 = .ok (.invokevirtual 158, 3) := by decide +kernel
theorem dX10_scope_83 : decode cX10_scope 83 = .ok (.ireturn, 1) := by decide +kernel
theorem dX10_scope_84 : decode cX10_scope 84 = .ok (.aload_n 0, 1) := by decide +kernel
theorem dX10_scope_85 : decode cX10_scope 85 = .ok (.getfield 51, 3) := by decide +kernel
theorem dX10_scope_88 : decode cX10_scope 88 = .ok (.iload_n 1, 1) := by decide +kernel
theorem dX10_scope_89 : decode cX10_scope 89 = .ok (.invokevirtual 161, 3) := by decide +kernel
theorem dX10_scope_92 : decode cX10_scope 92 = .ok (.ireturn, 1) := by decide +kernel
theorem dX10_scope_93 : decode cX10_scope 93 = .ok (.aload_n 3, 1) := by decide +kernel
theorem dX10_scope_94 : decode cX10_scope 94 = .ok (.getfield 164, 3) := by decide +kernel
theorem dX10_scope_97 : decode cX10_scope 97 = .ok (.ireturn, 1) := by decide +kernel
theorem dX10_scope_98 : decode cX10_scope 98 = .ok (.iconst (-1), 1) := by decide +kernel
theorem dX10_scope_99 : decode cX10_scope 99 = .ok (.ireturn, 1) := by decide +kernel
theorem dX10_below_0 : decode cX10_below 0 = .ok (.aload_n 0, 1) := by decide +kernel
theorem dX10_below_1 : decode cX10_below 1 = .ok (.getfield 51, 3) := by decide +kernel
theorem dX10_below_4 : decode cX10_below 4 = .ok (.iload_n 1, 1) := by decide +kernel
theorem dX10_below_5 : decode cX10_below 5 = .ok (.invokevirtual 95, 3) := by decide +kernel
theorem dX10_below_8 : decode cX10_below 8 = .ok (.ifnull 14, 3) := by decide +kernel
theorem dX10_below_11 : decode cX10_below 11 = .ok (.aload_n 0, 1) := by decide +kernel
theorem dX10_below_12 : decode cX10_below 12 = .ok (.getfield 51, 3) := by decide +kernel
theorem dX10_below_15 : decode cX10_below 15 = .ok (.iload_n 2, 1) := by decide +kernel
theorem dX10_below_16 : decode cX10_below 16 = .ok (.invokevirtual 95, 3) := by decide +kernel
theorem dX10_below_19 : decode cX10_below 19 = .ok (.ifnonnull 5, 3) := by decide +kernel
theorem dX10_below_22 : decode cX10_below 22 = .ok (.iconst (-1), 1) := by decide +kernel
theorem dX10_below_23 : decode cX10_below 23 = .ok (.ireturn, 1) := by decide +kernel
theorem dX10_below_24 : decode cX10_below 24 = .ok (.aload_n 0, 1) := by decide +kernel
theorem dX10_below_25 : decode cX10_below 25 = .ok (.getfield 51, 3) := by decide +kernel
theorem dX10_below_28 : decode cX10_below 28 = .ok (.iload_n 1, 1) := by decide +kernel
theorem dX10_below_29 : decode cX10_below 29 = .ok (.iload_n 2, 1) := by decide +kernel
theorem dX10_below_30 : decode cX10_below 30 = .ok (.invokevirtual 167, 3) := by decide +kernel
theorem dX10_below_33 : decode cX10_below 33 = .ok (.ifCond .eq 7, 3) := by decide +kernel
theorem dX10_below_36 : decode cX10_below 36 = .ok (.iconst 1, 1) := by decide +kernel
theorem dX10_below_37 : decode cX10_below 37 = .ok (.goto 4, 3) := by decide +kernel
theorem dX10_below_40 : decode cX10_below 40 = .ok (.iconst 0, 1) := by decide +kernel
theorem dX10_below_41 : decode cX10_below 41 = .ok (.ireturn, 1) := by decide +kernel
theorem dX10_youngest_0 : decode cX10_youngest 0 = .ok (.aload_n 0, 1) := by decide +kernel
theorem dX10_youngest_1 : decode cX10_youngest 1 = .ok (.getfield 51, 3) := by decide +kernel
theorem dX10_youngest_4 : decode cX10_youngest 4 = .ok (.iload_n 1, 1) := by decide +kernel
theorem dX10_youngest_5 : decode cX10_youngest 5 = .ok (.invokevirtual 95, 3) := by decide +kernel
theorem dX10_youngest_8 : decode cX10_youngest 8 = .ok (.ifnonnull 7, 3) := by decide +kernel
theorem dX10_youngest_11 : decode cX10_youngest 11 = .ok (.iconst (-1), 1) := by decide +kernel
theorem dX10_youngest_12 : decode cX10_youngest 12 = .ok (.goto 11, 3) := by decide +kernel
theorem dX10_youngest_15 : decode cX10_youngest 15 = .ok (.aload_n 0, 1) := by decide +kernel
theorem dX10_youngest_16 : decode cX10_youngest 16 = .ok (.getfield 51, 3) := by decide +kernel
theorem dX10_youngest_19 : decode cX10_youngest 19 = .ok (.iload_n 1, 1) := by decide +kernel
theorem dX10_youngest_20 : decode cX10_youngest 20 = .ok (.invokevirtual 171, 3) := by decide +kernel
theorem dX10_youngest_23 : decode cX10_youngest 23 = .ok (.ireturn, 1) := by decide +kernel
theorem dX10_thing_0 : decode cX10_thing 0 = .ok (.aload_n 0, 1) := by decide +kernel
theorem dX10_thing_1 : decode cX10_thing 1 = .ok (.getfield 51, 3) := by decide +kernel
theorem dX10_thing_4 : decode cX10_thing 4 = .ok (.iload_n 1, 1) := by decide +kernel
theorem dX10_thing_5 : decode cX10_thing 5 = .ok (.invokevirtual 63, 3) := by decide +kernel
theorem dX10_thing_8 : decode cX10_thing 8 = .ok (.astore_n 3, 1) := by decide +kernel
theorem dX10_thing_9 : decode cX10_thing 9 = .ok (.aload_n 3, 1) := by decide +kernel
theorem dX10_thing_10 : decode cX10_thing 10 = .ok (.ifnonnull 5, 3) := by decide +kernel
theorem dX10_thing_13 : decode cX10_thing 13 = .ok (.iconst (-1), 1) := by decide +kernel
theorem dX10_thing_14 : decode cX10_thing 14 = .ok (.ireturn, 1) := by decide +kernel
theorem dX10_thing_15 : decode cX10_thing 15 = .ok (.iload_n 2, 1) := by decide +kernel
theorem dX10_thing_16 : decode cX10_thing 16 = .ok (.tableswitch 55 0 3 #[32, 37, 42, 47], 32) := by decide +kernel
theorem dX10_thing_48 : decode cX10_thing 48 = .ok (.aload_n 3, 1) := by decide +kernel
theorem dX10_thing_49 : decode cX10_thing 49 = .ok (.getfield 136, 3) := by decide +kernel
theorem dX10_thing_52 : decode cX10_thing 52 = .ok (.ireturn, 1) := by decide +kernel
theorem dX10_thing_53 : decode cX10_thing 53 = .ok (.aload_n 3, 1) := by decide +kernel
theorem dX10_thing_54 : decode cX10_thing 54 = .ok (.getfield 177, 3) := by decide +kernel
theorem dX10_thing_57 : decode cX10_thing 57 = .ok (.ireturn, 1) := by decide +kernel
theorem dX10_thing_58 : decode cX10_thing 58 = .ok (.aload_n 3, 1) := by decide +kernel
theorem dX10_thing_59 : decode cX10_thing 59 = .ok (.getfield 180, 3) := by decide +kernel
theorem dX10_thing_62 : decode cX10_thing 62 = .ok (.ireturn, 1) := by decide +kernel
theorem dX10_thing_63 : decode cX10_thing 63 = .ok (.aload_n 3, 1) := by decide +kernel
theorem dX10_thing_64 : decode cX10_thing 64 = .ok (.getfield 69, 3) := by decide +kernel
theorem dX10_thing_67 : decode cX10_thing 67 = .ok (.invokestatic 183, 3) := by decide +kernel
theorem dX10_thing_70 : decode cX10_thing 70 = .ok (.ireturn, 1) := by decide +kernel
theorem dX10_thing_71 : decode cX10_thing 71 = .ok (.iconst (-1), 1) := by decide +kernel
theorem dX10_thing_72 : decode cX10_thing 72 = .ok (.ireturn, 1) := by decide +kernel
theorem dX10_name_0 : decode cX10_name 0 = .ok (.aload_n 0, 1) := by decide +kernel
theorem dX10_name_1 : decode cX10_name 1 = .ok (.getfield 51, 3) := by decide +kernel
theorem dX10_name_4 : decode cX10_name 4 = .ok (.iload_n 1, 1) := by decide +kernel
theorem dX10_name_5 : decode cX10_name 5 = .ok (.invokevirtual 63, 3) := by decide +kernel
theorem dX10_name_8 : decode cX10_name 8 = .ok (.astore_n 3, 1) := by decide +kernel
theorem dX10_name_9 : decode cX10_name 9 = .ok (.aload_n 3, 1) := by decide +kernel
theorem dX10_name_10 : decode cX10_name 10 = .ok (.ifnonnull 5, 3) := by decide +kernel
theorem dX10_name_13 : decode cX10_name 13 = .ok (.iconst (-1), 1) := by decide +kernel
theorem dX10_name_14 : decode cX10_name 14 = .ok (.ireturn, 1) := by decide +kernel
theorem dX10_name_15 : decode cX10_name 15 = .ok (.iload_n 2, 1) := by decide +kernel
theorem dX10_name_16 : decode cX10_name 16 = .ok (.iconst (-1), 1) := by decide +kernel
theorem dX10_name_17 : decode cX10_name 17 = .ok (.if_icmp .ne 11, 3) := by decide +kernel
theorem dX10_name_20 : decode cX10_name 20 = .ok (.aload_n 3, 1) := by decide +kernel
theorem dX10_name_21 : decode cX10_name 21 = .ok (.getfield 186, 3) := by decide +kernel
theorem dX10_name_24 : decode cX10_name 24 = .ok (.invokestatic 187, 3) := by decide +kernel
theorem dX10_name_27 : decode cX10_name 27 = .ok (.ireturn, 1) := by decide +kernel
theorem dX10_name_28 : decode cX10_name 28 = .ok (.aload_n 3, 1) := by decide +kernel
theorem dX10_name_29 : decode cX10_name 29 = .ok (.getfield 186, 3) := by decide +kernel
theorem dX10_name_32 : decode cX10_name 32 = .ok (.iload_n 2, 1) := by decide +kernel
theorem dX10_name_33 : decode cX10_name 33 = .ok (.invokestatic 190, 3) := by decide +kernel
theorem dX10_name_36 : decode cX10_name 36 = .ok (.istore 4, 2) := by decide +kernel
theorem dX10_name_38 : decode cX10_name 38 = .ok (.iload 4, 2) := by decide +kernel
theorem dX10_name_40 : decode cX10_name 40 = .ok (.ifCond .ne 7, 3) := by decide +kernel
theorem dX10_name_43 : decode cX10_name 43 = .ok (.iconst (-1), 1) := by decide +kernel
theorem dX10_name_44 : decode cX10_name 44 = .ok (.goto 5, 3) := by decide +kernel
theorem dX10_name_47 : decode cX10_name 47 = .ok (.iload 4, 2) := by decide +kernel
theorem dX10_name_49 : decode cX10_name 49 = .ok (.ireturn, 1) := by decide +kernel
theorem dX10_byName_0 : decode cX10_byName 0 = .ok (.aload_n 0, 1) := by decide +kernel
theorem dX10_byName_1 : decode cX10_byName 1 = .ok (.getfield 51, 3) := by decide +kernel
theorem dX10_byName_4 : decode cX10_byName 4 = .ok (.iload_n 1, 1) := by decide +kernel
theorem dX10_byName_5 : decode cX10_byName 5 = .ok (.invokevirtual 202, 3) := by decide +kernel
theorem dX10_byName_8 : decode cX10_byName 8 = .ok (.ireturn, 1) := by decide +kernel
theorem dX10_plan_0 : decode cX10_plan 0 = .ok (.aload_n 0, 1) := by decide +kernel
theorem dX10_plan_1 : decode cX10_plan 1 = .ok (.getfield 51, 3) := by decide +kernel
theorem dX10_plan_4 : decode cX10_plan 4 = .ok (.iload_n 1, 1) := by decide +kernel
theorem dX10_plan_5 : decode cX10_plan 5 = .ok (.invokevirtual 95, 3) := by decide +kernel
theorem dX10_plan_8 : decode cX10_plan 8 = .ok (.ifnonnull 7, 3) := by decide +kernel
theorem dX10_plan_11 : decode cX10_plan 11 = .ok (.iconst (-1), 1) := by decide +kernel
theorem dX10_plan_12 : decode cX10_plan 12 = .ok (.goto 12, 3) := by decide +kernel
theorem dX10_plan_15 : decode cX10_plan 15 = .ok (.aload_n 0, 1) := by decide +kernel
theorem dX10_plan_16 : decode cX10_plan 16 = .ok (.getfield 51, 3) := by decide +kernel
theorem dX10_plan_19 : decode cX10_plan 19 = .ok (.iload_n 1, 1) := by decide +kernel
theorem dX10_plan_20 : decode cX10_plan 20 = .ok (.iload_n 2, 1) := by decide +kernel
theorem dX10_plan_21 : decode cX10_plan 21 = .ok (.invokevirtual 205, 3) := by decide +kernel
theorem dX10_plan_24 : decode cX10_plan 24 = .ok (.ireturn, 1) := by decide +kernel
theorem dX10_would_0 : decode cX10_would 0 = .ok (.aload_n 0, 1) := by decide +kernel
theorem dX10_would_1 : decode cX10_would 1 = .ok (.getfield 51, 3) := by decide +kernel
theorem dX10_would_4 : decode cX10_would 4 = .ok (.iload_n 1, 1) := by decide +kernel
theorem dX10_would_5 : decode cX10_would 5 = .ok (.invokevirtual 95, 3) := by decide +kernel
theorem dX10_would_8 : decode cX10_would 8 = .ok (.astore_n 3, 1) := by decide +kernel
theorem dX10_would_9 : decode cX10_would 9 = .ok (.aload_n 3, 1) := by decide +kernel
theorem dX10_would_10 : decode cX10_would 10 = .ok (.ifnull 12, 3) := by decide +kernel
theorem dX10_would_13 : decode cX10_would 13 = .ok (.iload_n 2, 1) := by decide +kernel
theorem dX10_would_14 : decode cX10_would 14 = .ok (.ifCond .lt 8, 3) := by decide +kernel
theorem dX10_would_17 : decode cX10_would 17 = .ok (.iload_n 2, 1) := by decide +kernel
theorem dX10_would_18 : decode cX10_would 18 = .ok (.iconst 5, 1) := by decide +kernel
theorem dX10_would_19 : decode cX10_would 19 = .ok (.if_icmp .le 5, 3) := by decide +kernel
theorem dX10_would_22 : decode cX10_would 22 = .ok (.iconst (-1), 1) := by decide +kernel
theorem dX10_would_23 : decode cX10_would 23 = .ok (.ireturn, 1) := by decide +kernel
theorem dX10_would_24 : decode cX10_would 24 = .ok (.aload_n 3, 1) := by decide +kernel
theorem dX10_would_25 : decode cX10_would 25 = .ok (.getfield 99, 3) := by decide +kernel
theorem dX10_would_28 : decode cX10_would 28 = .ok (.ifCond .eq 6, 3) := by decide +kernel
theorem dX10_would_31 : decode cX10_would 31 = .ok (.bipush (-3), 2) := by decide +kernel
theorem dX10_would_33 : decode cX10_would 33 = .ok (.ireturn, 1) := by decide +kernel
theorem dX10_would_34 : decode cX10_would 34 = .ok (.aload_n 0, 1) := by decide +kernel
theorem dX10_would_35 : decode cX10_would 35 = .ok (.invokevirtual 208, 3) := by decide +kernel
theorem dX10_would_38 : decode cX10_would 38 = .ok (.astore 4, 2) := by decide +kernel
theorem dX10_would_40 : decode cX10_would 40 = .ok (.aload 4, 2) := by decide +kernel
theorem dX10_would_42 : decode cX10_would 42 = .ok (.getfield 47, 3) := by decide +kernel
theorem dX10_would_45 : decode cX10_would 45 = .ok (.astore 5, 2) := by decide +kernel
theorem dX10_would_47 : decode cX10_would 47 = .ok (.aload 4, 2) := by decide +kernel
theorem dX10_would_49 : decode cX10_would 49 = .ok (.bipush 100, 2) := by decide +kernel
theorem dX10_would_51 : decode cX10_would 51 = .ok (.iload_n 1, 1) := by decide +kernel
theorem dX10_would_52 : decode cX10_would 52 = .ok (.iadd, 1) := by decide +kernel
theorem dX10_would_53 : decode cX10_would 53 = .ok (.invokevirtual 137, 3) := by decide +kernel
theorem dX10_would_56 : decode cX10_would 56 = .ok (.istore 6, 2) := by decide +kernel
theorem dX10_would_58 : decode cX10_would 58 = .ok (.iload_n 2, 1) := by decide +kernel
theorem dX10_would_59 : decode cX10_would 59 = .ok (.tableswitch 86 0 4 #[33, 36, 44, 52, 72], 33) := by decide +kernel
theorem dX10_would_92 : decode cX10_would 92 = .ok (.iload 6, 2) := by decide +kernel
theorem dX10_would_94 : decode cX10_would 94 = .ok (.ireturn, 1) := by decide +kernel
theorem dX10_would_95 : decode cX10_would 95 = .ok (.aload 5, 2) := by decide +kernel
theorem dX10_would_97 : decode cX10_would 97 = .ok (.iconst (-1), 1) := by decide +kernel
theorem dX10_would_98 : decode cX10_would 98 = .ok (.iconst 0, 1) := by decide +kernel
theorem dX10_would_99 : decode cX10_would 99 = .ok (.invokevirtual 212, 3) := by decide +kernel
theorem dX10_would_102 : decode cX10_would 102 = .ok (.ireturn, 1) := by decide +kernel
theorem dX10_would_103 : decode cX10_would 103 = .ok (.aload 5, 2) := by decide +kernel
theorem dX10_would_105 : decode cX10_would 105 = .ok (.iconst (-1), 1) := by decide +kernel
theorem dX10_would_106 : decode cX10_would 106 = .ok (.iconst 0, 1) := by decide +kernel
theorem dX10_would_107 : decode cX10_would 107 = .ok (.invokevirtual 215, 3) := by decide +kernel
theorem dX10_would_110 : decode cX10_would 110 = .ok (.ireturn, 1) := by decide +kernel
theorem dX10_would_111 : decode cX10_would 111 = .ok (.aload 5, 2) := by decide +kernel
theorem dX10_would_113 : decode cX10_would 113 = .ok (.getfield 218, 3) := by decide +kernel
theorem dX10_would_116 : decode cX10_would 116 = .ok (.getfield 55, 3) := by decide +kernel
theorem dX10_would_119 : decode cX10_would 119 = .ok (.aload_n 0, 1) := by decide +kernel
theorem dX10_would_120 : decode cX10_would 120 = .ok (.getfield 51, 3) := by decide +kernel
theorem dX10_would_123 : decode cX10_would 123 = .ok (.getfield 218, 3) := by decide +kernel
theorem dX10_would_126 : decode cX10_would 126 = .ok (.getfield 55, 3) := by decide +kernel
theorem dX10_would_129 : decode cX10_would 129 = .ok (.isub, 1) := by decide +kernel
theorem dX10_would_130 : decode cX10_would 130 = .ok (.ireturn, 1) := by decide +kernel
theorem dX10_would_131 : decode cX10_would 131 = .ok (.aload 5, 2) := by decide +kernel
theorem dX10_would_133 : decode cX10_would 133 = .ok (.getfield 221, 3) := by decide +kernel
theorem dX10_would_136 : decode cX10_would 136 = .ok (.aload_n 0, 1) := by decide +kernel
theorem dX10_would_137 : decode cX10_would 137 = .ok (.getfield 51, 3) := by decide +kernel
theorem dX10_would_140 : decode cX10_would 140 = .ok (.getfield 221, 3) := by decide +kernel
theorem dX10_would_143 : decode cX10_would 143 = .ok (.isub, 1) := by decide +kernel
theorem dX10_would_144 : decode cX10_would 144 = .ok (.ireturn, 1) := by decide +kernel
theorem dX10_would_145 : decode cX10_would 145 = .ok (.aload 5, 2) := by decide +kernel
theorem dX10_would_147 : decode cX10_would 147 = .ok (.iconst 0, 1) := by decide +kernel
theorem dX10_would_148 : decode cX10_would 148 = .ok (.invokevirtual 158, 3) := by decide +kernel
theorem dX10_would_151 : decode cX10_would 151 = .ok (.ireturn, 1) := by decide +kernel
theorem dX10_trial_0 : decode cX10_trial 0 = .ok (.aload_n 0, 1) := by decide +kernel
theorem dX10_trial_1 : decode cX10_trial 1 = .ok (.getfield 51, 3) := by decide +kernel
theorem dX10_trial_4 : decode cX10_trial 4 = .ok (.iload_n 1, 1) := by decide +kernel
theorem dX10_trial_5 : decode cX10_trial 5 = .ok (.invokevirtual 79, 3) := by decide +kernel
theorem dX10_trial_8 : decode cX10_trial 8 = .ok (.ifnull 12, 3) := by decide +kernel
theorem dX10_trial_11 : decode cX10_trial 11 = .ok (.iload_n 3, 1) := by decide +kernel
theorem dX10_trial_12 : decode cX10_trial 12 = .ok (.ifCond .lt 8, 3) := by decide +kernel
theorem dX10_trial_15 : decode cX10_trial 15 = .ok (.iload_n 3, 1) := by decide +kernel
theorem dX10_trial_16 : decode cX10_trial 16 = .ok (.iconst 5, 1) := by decide +kernel
theorem dX10_trial_17 : decode cX10_trial 17 = .ok (.if_icmp .le 5, 3) := by decide +kernel
theorem dX10_trial_20 : decode cX10_trial 20 = .ok (.iconst (-1), 1) := by decide +kernel
theorem dX10_trial_21 : decode cX10_trial 21 = .ok (.ireturn, 1) := by decide +kernel
theorem dX10_trial_22 : decode cX10_trial 22 = .ok (.iload_n 2, 1) := by decide +kernel
theorem dX10_trial_23 : decode cX10_trial 23 = .ok (.ifCond .lt 9, 3) := by decide +kernel
theorem dX10_trial_26 : decode cX10_trial 26 = .ok (.iload_n 2, 1) := by decide +kernel
theorem dX10_trial_27 : decode cX10_trial 27 = .ok (.bipush 100, 2) := by decide +kernel
theorem dX10_trial_29 : decode cX10_trial 29 = .ok (.if_icmp .le 6, 3) := by decide +kernel
theorem dX10_trial_32 : decode cX10_trial 32 = .ok (.bipush (-2), 2) := by decide +kernel
theorem dX10_trial_34 : decode cX10_trial 34 = .ok (.ireturn, 1) := by decide +kernel
theorem dX10_trial_35 : decode cX10_trial 35 = .ok (.aload_n 0, 1) := by decide +kernel
theorem dX10_trial_36 : decode cX10_trial 36 = .ok (.invokevirtual 208, 3) := by decide +kernel
theorem dX10_trial_39 : decode cX10_trial 39 = .ok (.astore 4, 2) := by decide +kernel
theorem dX10_trial_41 : decode cX10_trial 41 = .ok (.aload 4, 2) := by decide +kernel
theorem dX10_trial_43 : decode cX10_trial 43 = .ok (.getfield 47, 3) := by decide +kernel
theorem dX10_trial_46 : decode cX10_trial 46 = .ok (.astore 5, 2) := by decide +kernel
theorem dX10_trial_48 : decode cX10_trial 48 = .ok (.aload 4, 2) := by decide +kernel
theorem dX10_trial_50 : decode cX10_trial 50 = .ok (.iload_n 2, 1) := by decide +kernel
theorem dX10_trial_51 : decode cX10_trial 51 = .ok (.invokevirtual 224, 3) := by decide +kernel
theorem dX10_trial_54 : decode cX10_trial 54 = .ok (.pop, 1) := by decide +kernel
theorem dX10_trial_55 : decode cX10_trial 55 = .ok (.aload 5, 2) := by decide +kernel
theorem dX10_trial_57 : decode cX10_trial 57 = .ok (.iload_n 1, 1) := by decide +kernel
theorem dX10_trial_58 : decode cX10_trial 58 = .ok (.invokevirtual 79, 3) := by decide +kernel
theorem dX10_trial_61 : decode cX10_trial 61 = .ok (.astore 6, 2) := by decide +kernel
theorem dX10_trial_63 : decode cX10_trial 63 = .ok (.iload_n 3, 1) := by decide +kernel
theorem dX10_trial_64 : decode cX10_trial 64 = .ok (.tableswitch 89 0 4 #[36, 43, 51, 59, 74], 36) := by decide +kernel
theorem dX10_trial_100 : decode cX10_trial 100 = .ok (.aload 5, 2) := by decide +kernel
theorem dX10_trial_102 : decode cX10_trial 102 = .ok (.iload_n 1, 1) := by decide +kernel
theorem dX10_trial_103 : decode cX10_trial 103 = .ok (.invokevirtual 227, 3) := by decide +kernel
theorem dX10_trial_106 : decode cX10_trial 106 = .ok (.ireturn, 1) := by decide +kernel
theorem dX10_trial_107 : decode cX10_trial 107 = .ok (.aload 5, 2) := by decide +kernel
theorem dX10_trial_109 : decode cX10_trial 109 = .ok (.iload_n 1, 1) := by decide +kernel
theorem dX10_trial_110 : decode cX10_trial 110 = .ok (.iconst 0, 1) := by decide +kernel
theorem dX10_trial_111 : decode cX10_trial 111 = .ok (.invokevirtual 212, 3) := by decide +kernel
theorem dX10_trial_114 : decode cX10_trial 114 = .ok (.ireturn, 1) := by decide +kernel
theorem dX10_trial_115 : decode cX10_trial 115 = .ok (.aload 5, 2) := by decide +kernel
theorem dX10_trial_117 : decode cX10_trial 117 = .ok (.iload_n 1, 1) := by decide +kernel
theorem dX10_trial_118 : decode cX10_trial 118 = .ok (.iconst 0, 1) := by decide +kernel
theorem dX10_trial_119 : decode cX10_trial 119 = .ok (.invokevirtual 215, 3) := by decide +kernel
theorem dX10_trial_122 : decode cX10_trial 122 = .ok (.ireturn, 1) := by decide +kernel
theorem dX10_trial_123 : decode cX10_trial 123 = .ok (.aload 6, 2) := by decide +kernel
theorem dX10_trial_125 : decode cX10_trial 125 = .ok (.ifnonnull 7, 3) := by decide +kernel
theorem dX10_trial_128 : decode cX10_trial 128 = .ok (.iconst (-1), 1) := by decide +kernel
theorem dX10_trial_129 : decode cX10_trial 129 = .ok (.goto 8, 3) := by decide +kernel
theorem dX10_trial_132 : decode cX10_trial 132 = .ok (.aload 6, 2) := by decide +kernel
theorem dX10_trial_134 : decode cX10_trial 134 = .ok (.getfield 230, 3) := by decide +kernel
theorem dX10_trial_137 : decode cX10_trial 137 = .ok (.ireturn, 1) := by decide +kernel
theorem dX10_trial_138 : decode cX10_trial 138 = .ok (.aload 6, 2) := by decide +kernel
theorem dX10_trial_140 : decode cX10_trial 140 = .ok (.ifnonnull 7, 3) := by decide +kernel
theorem dX10_trial_143 : decode cX10_trial 143 = .ok (.iconst (-1), 1) := by decide +kernel
theorem dX10_trial_144 : decode cX10_trial 144 = .ok (.goto 8, 3) := by decide +kernel
theorem dX10_trial_147 : decode cX10_trial 147 = .ok (.aload 6, 2) := by decide +kernel
theorem dX10_trial_149 : decode cX10_trial 149 = .ok (.getfield 231, 3) := by decide +kernel
theorem dX10_trial_152 : decode cX10_trial 152 = .ok (.ireturn, 1) := by decide +kernel
theorem dX10_trial_153 : decode cX10_trial 153 = .ok (.aload 5, 2) := by decide +kernel
theorem dX10_trial_155 : decode cX10_trial 155 = .ok (.getfield 218, 3) := by decide +kernel
theorem dX10_trial_158 : decode cX10_trial 158 = .ok (.getfield 55, 3) := by decide +kernel
theorem dX10_trial_161 : decode cX10_trial 161 = .ok (.ireturn, 1) := by decide +kernel
theorem dX10_log_0 : decode cX10_log 0 = .ok (.aload_n 0, 1) := by decide +kernel
theorem dX10_log_1 : decode cX10_log 1 = .ok (.getfield 51, 3) := by decide +kernel
theorem dX10_log_4 : decode cX10_log 4 = .ok (.getfield 218, 3) := by decide +kernel
theorem dX10_log_7 : decode cX10_log 7 = .ok (.iload_n 1, 1) := by decide +kernel
theorem dX10_log_8 : decode cX10_log 8 = .ok (.invokevirtual 88, 3) := by decide +kernel
theorem dX10_log_11 : decode cX10_log 11 = .ok (.ifCond .eq 17, 3) := by decide +kernel
theorem dX10_log_14 : decode cX10_log 14 = .ok (.aload_n 0, 1) := by decide +kernel
theorem dX10_log_15 : decode cX10_log 15 = .ok (.getfield 51, 3) := by decide +kernel
theorem dX10_log_18 : decode cX10_log 18 = .ok (.getfield 218, 3) := by decide +kernel
theorem dX10_log_21 : decode cX10_log 21 = .ok (.iload_n 1, 1) := by decide +kernel
theorem dX10_log_22 : decode cX10_log 22 = .ok (.invokevirtual 91, 3) := by decide +kernel
theorem dX10_log_25 : decode cX10_log 25 = .ok (.goto 4, 3) := by decide +kernel
theorem dX10_log_28 : decode cX10_log 28 = .ok (.iconst (-1), 1) := by decide +kernel
theorem dX10_log_29 : decode cX10_log 29 = .ok (.ireturn, 1) := by decide +kernel
theorem dX10_task_0 : decode cX10_task 0 = .ok (.aload_n 0, 1) := by decide +kernel
theorem dX10_task_1 : decode cX10_task 1 = .ok (.getfield 51, 3) := by decide +kernel
theorem dX10_task_4 : decode cX10_task 4 = .ok (.iload_n 1, 1) := by decide +kernel
theorem dX10_task_5 : decode cX10_task 5 = .ok (.invokevirtual 95, 3) := by decide +kernel
theorem dX10_task_8 : decode cX10_task 8 = .ok (.astore_n 3, 1) := by decide +kernel
theorem dX10_task_9 : decode cX10_task 9 = .ok (.aload_n 3, 1) := by decide +kernel
theorem dX10_task_10 : decode cX10_task 10 = .ok (.ifnonnull 5, 3) := by decide +kernel
theorem dX10_task_13 : decode cX10_task 13 = .ok (.iconst (-1), 1) := by decide +kernel
theorem dX10_task_14 : decode cX10_task 14 = .ok (.ireturn, 1) := by decide +kernel
theorem dX10_task_15 : decode cX10_task 15 = .ok (.iload_n 2, 1) := by decide +kernel
theorem dX10_task_16 : decode cX10_task 16 = .ok (.invokestatic 237, 3) := by decide +kernel
theorem dX10_task_19 : decode cX10_task 19 = .ok (.ifCond .ne 6, 3) := by decide +kernel
theorem dX10_task_22 : decode cX10_task 22 = .ok (.bipush (-2), 2) := by decide +kernel
theorem dX10_task_24 : decode cX10_task 24 = .ok (.ireturn, 1) := by decide +kernel
theorem dX10_task_25 : decode cX10_task 25 = .ok (.aload_n 3, 1) := by decide +kernel
theorem dX10_task_26 : decode cX10_task 26 = .ok (.getfield 99, 3) := by decide +kernel
theorem dX10_task_29 : decode cX10_task 29 = .ok (.ifCond .eq 6, 3) := by decide +kernel
theorem dX10_task_32 : decode cX10_task 32 = .ok (.bipush (-3), 2) := by decide +kernel
theorem dX10_task_34 : decode cX10_task 34 = .ok (.ireturn, 1) := by decide +kernel
theorem dX10_task_35 : decode cX10_task 35 = .ok (.aload_n 0, 1) := by decide +kernel
theorem dX10_task_36 : decode cX10_task 36 = .ok (.getfield 51, 3) := by decide +kernel
theorem dX10_task_39 : decode cX10_task 39 = .ok (.invokevirtual 240, 3) := by decide +kernel
theorem dX10_task_42 : decode cX10_task 42 = .ok (.ifCond .ne 13, 3) := by decide +kernel
theorem dX10_task_45 : decode cX10_task 45 = .ok (.aload_n 0, 1) := by decide +kernel
theorem dX10_task_46 : decode cX10_task 46 = .ok (.getfield 51, 3) := by decide +kernel
theorem dX10_task_49 : decode cX10_task 49 = .ok (.invokevirtual 104, 3) := by decide +kernel
theorem dX10_task_52 : decode cX10_task 52 = .ok (.ifCond .eq 6, 3) := by decide +kernel
theorem dX10_task_55 : decode cX10_task 55 = .ok (.bipush (-4), 2) := by decide +kernel
theorem dX10_task_57 : decode cX10_task 57 = .ok (.ireturn, 1) := by decide +kernel
theorem dX10_task_58 : decode cX10_task 58 = .ok (.aload_n 0, 1) := by decide +kernel
theorem dX10_task_59 : decode cX10_task 59 = .ok (.getfield 12, 3) := by decide +kernel
theorem dX10_task_62 : decode cX10_task 62 = .ok (.invokevirtual 243, 3) := by decide +kernel
theorem dX10_task_65 : decode cX10_task 65 = .ok (.astore 4, 2) := by decide +kernel
theorem dX10_task_67 : decode cX10_task 67 = .ok (.aload_n 0, 1) := by decide +kernel
theorem dX10_task_68 : decode cX10_task 68 = .ok (.getfield 22, 3) := by decide +kernel
theorem dX10_task_71 : decode cX10_task 71 = .ok (.iconst 0, 1) := by decide +kernel
theorem dX10_task_72 : decode cX10_task 72 = .ok (.putfield 55, 3) := by decide +kernel
theorem dX10_task_75 : decode cX10_task 75 = .ok (.aload 4, 2) := by decide +kernel
theorem dX10_task_77 : decode cX10_task 77 = .ok (.ifnonnull 16, 3) := by decide +kernel
theorem dX10_task_80 : decode cX10_task 80 = .ok (.bipush (-100), 2) := by decide +kernel
theorem dX10_task_82 : decode cX10_task 82 = .ok (.aload_n 0, 1) := by decide +kernel
theorem dX10_task_83 : decode cX10_task 83 = .ok (.getfield 12, 3) := by decide +kernel
theorem dX10_task_86 : decode cX10_task 86 = .ok (.getfield 116, 3) := by decide +kernel
theorem dX10_task_89 : decode cX10_task 89 = .ok (.isub, 1) := by decide +kernel
theorem dX10_task_90 : decode cX10_task 90 = .ok (.goto 14, 3) := by decide +kernel
theorem dX10_task_93 : decode cX10_task 93 = .ok (.aload_n 0, 1) := by decide +kernel
theorem dX10_task_94 : decode cX10_task 94 = .ok (.getfield 51, 3) := by decide +kernel
theorem dX10_task_97 : decode cX10_task 97 = .ok (.aload 4, 2) := by decide +kernel
theorem dX10_task_99 : decode cX10_task 99 = .ok (.iload_n 1, 1) := by decide +kernel
theorem dX10_task_100 : decode cX10_task 100 = .ok (.iload_n 2, 1) := by decide +kernel
theorem dX10_task_101 : decode cX10_task 101 = .ok (.invokevirtual 246, 3) := by decide +kernel
theorem dX10_task_104 : decode cX10_task 104 = .ok (.ireturn, 1) := by decide +kernel
theorem dX10_tick_0 : decode cX10_tick 0 = .ok (.aload_n 0, 1) := by decide +kernel
theorem dX10_tick_1 : decode cX10_tick 1 = .ok (.getfield 43, 3) := by decide +kernel
theorem dX10_tick_4 : decode cX10_tick 4 = .ok (.invokevirtual 250, 3) := by decide +kernel
theorem dX10_tick_7 : decode cX10_tick 7 = .ok (.ireturn, 1) := by decide +kernel
theorem dX10_ready_0 : decode cX10_ready 0 = .ok (.iload_n 1, 1) := by decide +kernel
theorem dX10_ready_1 : decode cX10_ready 1 = .ok (.ifCond .ge 7, 3) := by decide +kernel
theorem dX10_ready_4 : decode cX10_ready 4 = .ok (.iconst (-1), 1) := by decide +kernel
theorem dX10_ready_5 : decode cX10_ready 5 = .ok (.goto 11, 3) := by decide +kernel
theorem dX10_ready_8 : decode cX10_ready 8 = .ok (.aload_n 0, 1) := by decide +kernel
theorem dX10_ready_9 : decode cX10_ready 9 = .ok (.getfield 51, 3) := by decide +kernel
theorem dX10_ready_12 : decode cX10_ready 12 = .ok (.iload_n 1, 1) := by decide +kernel
theorem dX10_ready_13 : decode cX10_ready 13 = .ok (.invokevirtual 270, 3) := by decide +kernel
theorem dX10_ready_16 : decode cX10_ready 16 = .ok (.ireturn, 1) := by decide +kernel
theorem dX10_told_0 : decode cX10_told 0 = .ok (.iload_n 1, 1) := by decide +kernel
theorem dX10_told_1 : decode cX10_told 1 = .ok (.tableswitch 139 0 9 #[55, 63, 71, 79, 88, 96, 104, 112, 123, 131], 55) := by decide +kernel
theorem dX10_told_56 : decode cX10_told 56 = .ok (.aload_n 0, 1) := by decide +kernel
theorem dX10_told_57 : decode cX10_told 57 = .ok (.getfield 51, 3) := by decide +kernel
theorem dX10_told_60 : decode cX10_told 60 = .ok (.getfield 273, 3) := by decide +kernel
theorem dX10_told_63 : decode cX10_told 63 = .ok (.ireturn, 1) := by decide +kernel
theorem dX10_told_64 : decode cX10_told 64 = .ok (.aload_n 0, 1) := by decide +kernel
theorem dX10_told_65 : decode cX10_told 65 = .ok (.getfield 51, 3) := by decide +kernel
theorem dX10_told_68 : decode cX10_told 68 = .ok (.invokevirtual 276, 3) := by decide +kernel
theorem dX10_told_71 : decode cX10_told 71 = .ok (.ireturn, 1) := by decide +kernel
theorem dX10_told_72 : decode cX10_told 72 = .ok (.aload_n 0, 1) := by decide +kernel
theorem dX10_told_73 : decode cX10_told 73 = .ok (.getfield 51, 3) := by decide +kernel
theorem dX10_told_76 : decode cX10_told 76 = .ok (.getfield 221, 3) := by decide +kernel
theorem dX10_told_79 : decode cX10_told 79 = .ok (.ireturn, 1) := by decide +kernel
theorem dX10_told_80 : decode cX10_told 80 = .ok (.aload_n 0, 1) := by decide +kernel
theorem dX10_told_81 : decode cX10_told 81 = .ok (.getfield 51, 3) := by decide +kernel
theorem dX10_told_84 : decode cX10_told 84 = .ok (.iconst 0, 1) := by decide +kernel
theorem dX10_told_85 : decode cX10_told 85 = .ok (.invokevirtual 158, 3) := by decide +kernel
theorem dX10_told_88 : decode cX10_told 88 = .ok (.ireturn, 1) := by decide +kernel
theorem dX10_told_89 : decode cX10_told 89 = .ok (.aload_n 0, 1) := by decide +kernel
theorem dX10_told_90 : decode cX10_told 90 = .ok (.getfield 51, 3) := by decide +kernel
theorem dX10_told_93 : decode cX10_told 93 = .ok (.getfield 279, 3) := by decide +kernel
theorem dX10_told_96 : decode cX10_told 96 = .ok (.ireturn, 1) := by decide +kernel
theorem dX10_told_97 : decode cX10_told 97 = .ok (.aload_n 0, 1) := by decide +kernel
theorem dX10_told_98 : decode cX10_told 98 = .ok (.getfield 51, 3) := by decide +kernel
theorem dX10_told_101 : decode cX10_told 101 = .ok (.invokevirtual 282, 3) := by decide +kernel
theorem dX10_told_104 : decode cX10_told 104 = .ok (.ireturn, 1) := by decide +kernel
theorem dX10_told_105 : decode cX10_told 105 = .ok (.aload_n 0, 1) := by decide +kernel
theorem dX10_told_106 : decode cX10_told 106 = .ok (.getfield 51, 3) := by decide +kernel
theorem dX10_told_109 : decode cX10_told 109 = .ok (.getfield 285, 3) := by decide +kernel
theorem dX10_told_112 : decode cX10_told 112 = .ok (.ireturn, 1) := by decide +kernel
theorem dX10_told_113 : decode cX10_told 113 = .ok (.aload_n 0, 1) := by decide +kernel
theorem dX10_told_114 : decode cX10_told 114 = .ok (.getfield 51, 3) := by decide +kernel
theorem dX10_told_117 : decode cX10_told 117 = .ok (.getfield 218, 3) := by decide +kernel
theorem dX10_told_120 : decode cX10_told 120 = .ok (.getfield 55, 3) := by decide +kernel
theorem dX10_told_123 : decode cX10_told 123 = .ok (.ireturn, 1) := by decide +kernel
theorem dX10_told_124 : decode cX10_told 124 = .ok (.aload_n 0, 1) := by decide +kernel
theorem dX10_told_125 : decode cX10_told 125 = .ok (.getfield 22, 3) := by decide +kernel
theorem dX10_told_128 : decode cX10_told 128 = .ok (.getfield 55, 3) := by decide +kernel
theorem dX10_told_131 : decode cX10_told 131 = .ok (.ireturn, 1) := by decide +kernel
theorem dX10_told_132 : decode cX10_told 132 = .ok (.aload_n 0, 1) := by decide +kernel
theorem dX10_told_133 : decode cX10_told 133 = .ok (.getfield 33, 3) := by decide +kernel
theorem dX10_told_136 : decode cX10_told 136 = .ok (.getfield 55, 3) := by decide +kernel
theorem dX10_told_139 : decode cX10_told 139 = .ok (.ireturn, 1) := by decide +kernel
theorem dX10_told_140 : decode cX10_told 140 = .ok (.iconst (-1), 1) := by decide +kernel
theorem dX10_told_141 : decode cX10_told 141 = .ok (.ireturn, 1) := by decide +kernel
theorem dX10_image_0 : decode cX10_image 0 = .ok (.aload_n 0, 1) := by decide +kernel
theorem dX10_image_1 : decode cX10_image 1 = .ok (.getfield 306, 3) := by decide +kernel
theorem dX10_image_4 : decode cX10_image 4 = .ok (.ifnonnull 14, 3) := by decide +kernel
theorem dX10_image_7 : decode cX10_image 7 = .ok (.aload_n 0, 1) := by decide +kernel
theorem dX10_image_8 : decode cX10_image 8 = .ok (.new 64, 3) := by decide +kernel
theorem dX10_image_11 : decode cX10_image 11 = .ok (.dup, 1) := by decide +kernel
theorem dX10_image_12 : decode cX10_image 12 = .ok (.invokespecial 309, 3) := by decide +kernel
theorem dX10_image_15 : decode cX10_image 15 = .ok (.putfield 306, 3) := by decide +kernel
theorem dX10_image_18 : decode cX10_image 18 = .ok (.aload_n 0, 1) := by decide +kernel
theorem dX10_image_19 : decode cX10_image 19 = .ok (.getfield 306, 3) := by decide +kernel
theorem dX10_image_22 : decode cX10_image 22 = .ok (.aload_n 0, 1) := by decide +kernel
theorem dX10_image_23 : decode cX10_image 23 = .ok (.getfield 51, 3) := by decide +kernel
theorem dX10_image_26 : decode cX10_image 26 = .ok (.invokevirtual 310, 3) := by decide +kernel
theorem dX10_image_29 : decode cX10_image 29 = .ok (.aload_n 0, 1) := by decide +kernel
theorem dX10_image_30 : decode cX10_image 30 = .ok (.getfield 51, 3) := by decide +kernel
theorem dX10_image_33 : decode cX10_image 33 = .ok (.iconst 0, 1) := by decide +kernel
theorem dX10_image_34 : decode cX10_image 34 = .ok (.invokevirtual 158, 3) := by decide +kernel
theorem dX10_image_37 : decode cX10_image 37 = .ok (.ireturn, 1) := by decide +kernel
theorem dX10_undo_0 : decode cX10_undo 0 = .ok (.aload_n 0, 1) := by decide +kernel
theorem dX10_undo_1 : decode cX10_undo 1 = .ok (.getfield 306, 3) := by decide +kernel
theorem dX10_undo_4 : decode cX10_undo 4 = .ok (.ifnonnull 6, 3) := by decide +kernel
theorem dX10_undo_7 : decode cX10_undo 7 = .ok (.bipush (-3), 2) := by decide +kernel
theorem dX10_undo_9 : decode cX10_undo 9 = .ok (.ireturn, 1) := by decide +kernel
theorem dX10_undo_10 : decode cX10_undo 10 = .ok (.aload_n 0, 1) := by decide +kernel
theorem dX10_undo_11 : decode cX10_undo 11 = .ok (.getfield 51, 3) := by decide +kernel
theorem dX10_undo_14 : decode cX10_undo 14 = .ok (.aload_n 0, 1) := by decide +kernel
theorem dX10_undo_15 : decode cX10_undo 15 = .ok (.getfield 306, 3) := by decide +kernel
theorem dX10_undo_18 : decode cX10_undo 18 = .ok (.invokevirtual 310, 3) := by decide +kernel
theorem dX10_undo_21 : decode cX10_undo 21 = .ok (.aload_n 0, 1) := by decide +kernel
theorem dX10_undo_22 : decode cX10_undo 22 = .ok (.getfield 51, 3) := by decide +kernel
theorem dX10_undo_25 : decode cX10_undo 25 = .ok (.iconst 0, 1) := by decide +kernel
theorem dX10_undo_26 : decode cX10_undo 26 = .ok (.invokevirtual 158, 3) := by decide +kernel
theorem dX10_undo_29 : decode cX10_undo 29 = .ok (.ireturn, 1) := by decide +kernel
theorem dX10_thinkerOfNow_0 : decode cX10_thinkerOfNow 0 = .ok (.aload_n 0, 1) := by decide +kernel
theorem dX10_thinkerOfNow_1 : decode cX10_thinkerOfNow 1 = .ok (.getfield 314, 3) := by decide +kernel
theorem dX10_thinkerOfNow_4 : decode cX10_thinkerOfNow 4 = .ok (.ifnonnull 14, 3) := by decide +kernel
theorem dX10_thinkerOfNow_7 : decode cX10_thinkerOfNow 7 = .ok (.aload_n 0, 1) := by decide +kernel
theorem dX10_thinkerOfNow_8 : decode cX10_thinkerOfNow 8 = .ok (.new 40, 3) := by decide +kernel
theorem dX10_thinkerOfNow_11 : decode cX10_thinkerOfNow 11 = .ok (.dup, 1) := by decide +kernel
theorem dX10_thinkerOfNow_12 : decode cX10_thinkerOfNow 12 = .ok (.invokespecial 42, 3) := by decide +kernel
theorem dX10_thinkerOfNow_15 : decode cX10_thinkerOfNow 15 = .ok (.putfield 314, 3) := by decide +kernel
theorem dX10_thinkerOfNow_18 : decode cX10_thinkerOfNow 18 = .ok (.aload_n 0, 1) := by decide +kernel
theorem dX10_thinkerOfNow_19 : decode cX10_thinkerOfNow 19 = .ok (.getfield 314, 3) := by decide +kernel
theorem dX10_thinkerOfNow_22 : decode cX10_thinkerOfNow 22 = .ok (.getfield 47, 3) := by decide +kernel
theorem dX10_thinkerOfNow_25 : decode cX10_thinkerOfNow 25 = .ok (.aload_n 0, 1) := by decide +kernel
theorem dX10_thinkerOfNow_26 : decode cX10_thinkerOfNow 26 = .ok (.getfield 51, 3) := by decide +kernel
theorem dX10_thinkerOfNow_29 : decode cX10_thinkerOfNow 29 = .ok (.invokevirtual 310, 3) := by decide +kernel
theorem dX10_thinkerOfNow_32 : decode cX10_thinkerOfNow 32 = .ok (.aload_n 0, 1) := by decide +kernel
theorem dX10_thinkerOfNow_33 : decode cX10_thinkerOfNow 33 = .ok (.getfield 314, 3) := by decide +kernel
theorem dX10_thinkerOfNow_36 : decode cX10_thinkerOfNow 36 = .ok (.areturn, 1) := by decide +kernel
theorem dX10_mayBePriority_0 : decode cX10_mayBePriority 0 = .ok (.iload_n 0, 1) := by decide +kernel
theorem dX10_mayBePriority_1 : decode cX10_mayBePriority 1 = .ok (.bipush (-99), 2) := by decide +kernel
theorem dX10_mayBePriority_3 : decode cX10_mayBePriority 3 = .ok (.if_icmp .lt 13, 3) := by decide +kernel
theorem dX10_mayBePriority_6 : decode cX10_mayBePriority 6 = .ok (.iload_n 0, 1) := by decide +kernel
theorem dX10_mayBePriority_7 : decode cX10_mayBePriority 7 = .ok (.bipush 99, 2) := by decide +kernel
theorem dX10_mayBePriority_9 : decode cX10_mayBePriority 9 = .ok (.if_icmp .gt 7, 3) := by decide +kernel
theorem dX10_mayBePriority_12 : decode cX10_mayBePriority 12 = .ok (.iconst 1, 1) := by decide +kernel
theorem dX10_mayBePriority_13 : decode cX10_mayBePriority 13 = .ok (.goto 4, 3) := by decide +kernel
theorem dX10_mayBePriority_16 : decode cX10_mayBePriority 16 = .ok (.iconst 0, 1) := by decide +kernel
theorem dX10_mayBePriority_17 : decode cX10_mayBePriority 17 = .ok (.ireturn, 1) := by decide +kernel
theorem dX10_stepsFrom_0 : decode cX10_stepsFrom 0 = .ok (.iconst 0, 1) := by decide +kernel
theorem dX10_stepsFrom_1 : decode cX10_stepsFrom 1 = .ok (.istore_n 1, 1) := by decide +kernel
theorem dX10_stepsFrom_2 : decode cX10_stepsFrom 2 = .ok (.aload_n 0, 1) := by decide +kernel
theorem dX10_stepsFrom_3 : decode cX10_stepsFrom 3 = .ok (.astore_n 2, 1) := by decide +kernel
theorem dX10_stepsFrom_4 : decode cX10_stepsFrom 4 = .ok (.aload_n 2, 1) := by decide +kernel
theorem dX10_stepsFrom_5 : decode cX10_stepsFrom 5 = .ok (.ifnull 14, 3) := by decide +kernel
theorem dX10_stepsFrom_8 : decode cX10_stepsFrom 8 = .ok (.iinc 1 1, 3) := by decide +kernel
theorem dX10_stepsFrom_11 : decode cX10_stepsFrom 11 = .ok (.aload_n 2, 1) := by decide +kernel
theorem dX10_stepsFrom_12 : decode cX10_stepsFrom 12 = .ok (.getfield 317, 3) := by decide +kernel
theorem dX10_stepsFrom_15 : decode cX10_stepsFrom 15 = .ok (.astore_n 2, 1) := by decide +kernel
theorem dX10_stepsFrom_16 : decode cX10_stepsFrom 16 = .ok (.goto (-12), 3) := by decide +kernel
theorem dX10_stepsFrom_19 : decode cX10_stepsFrom 19 = .ok (.iload_n 1, 1) := by decide +kernel
theorem dX10_stepsFrom_20 : decode cX10_stepsFrom 20 = .ok (.ireturn, 1) := by decide +kernel
theorem dX10_letterOf_0 : decode cX10_letterOf 0 = .ok (.iload_n 2, 1) := by decide +kernel
theorem dX10_letterOf_1 : decode cX10_letterOf 1 = .ok (.ifCond .lt 9, 3) := by decide +kernel
theorem dX10_letterOf_4 : decode cX10_letterOf 4 = .ok (.iload_n 2, 1) := by decide +kernel
theorem dX10_letterOf_5 : decode cX10_letterOf 5 = .ok (.bipush 7, 2) := by decide +kernel
theorem dX10_letterOf_7 : decode cX10_letterOf 7 = .ok (.if_icmp .lt 5, 3) := by decide +kernel
theorem dX10_letterOf_10 : decode cX10_letterOf 10 = .ok (.iconst 0, 1) := by decide +kernel
theorem dX10_letterOf_11 : decode cX10_letterOf 11 = .ok (.ireturn, 1) := by decide +kernel
theorem dX10_letterOf_12 : decode cX10_letterOf 12 = .ok (.lload_n 0, 1) := by decide +kernel
theorem dX10_letterOf_13 : decode cX10_letterOf 13 = .ok (.iconst 5, 1) := by decide +kernel
theorem dX10_letterOf_14 : decode cX10_letterOf 14 = .ok (.bipush 6, 2) := by decide +kernel
theorem dX10_letterOf_16 : decode cX10_letterOf 16 = .ok (.iload_n 2, 1) := by decide +kernel
theorem dX10_letterOf_17 : decode cX10_letterOf 17 = .ok (.isub, 1) := by decide +kernel
theorem dX10_letterOf_18 : decode cX10_letterOf 18 = .ok (.imul, 1) := by decide +kernel
theorem dX10_letterOf_19 : decode cX10_letterOf 19 = .ok (.lshr, 1) := by decide +kernel
theorem dX10_letterOf_20 : decode cX10_letterOf 20 = .ok (.l2i, 1) := by decide +kernel
theorem dX10_letterOf_21 : decode cX10_letterOf 21 = .ok (.bipush 31, 2) := by decide +kernel
theorem dX10_letterOf_23 : decode cX10_letterOf 23 = .ok (.iand, 1) := by decide +kernel
theorem dX10_letterOf_24 : decode cX10_letterOf 24 = .ok (.istore_n 3, 1) := by decide +kernel
theorem dX10_letterOf_25 : decode cX10_letterOf 25 = .ok (.iload_n 3, 1) := by decide +kernel
theorem dX10_letterOf_26 : decode cX10_letterOf 26 = .ok (.ifCond .ne 7, 3) := by decide +kernel
theorem dX10_letterOf_29 : decode cX10_letterOf 29 = .ok (.iconst 0, 1) := by decide +kernel
theorem dX10_letterOf_30 : decode cX10_letterOf 30 = .ok (.goto 9, 3) := by decide +kernel
theorem dX10_letterOf_33 : decode cX10_letterOf 33 = .ok (.iload_n 3, 1) := by decide +kernel
theorem dX10_letterOf_34 : decode cX10_letterOf 34 = .ok (.bipush 97, 2) := by decide +kernel
theorem dX10_letterOf_36 : decode cX10_letterOf 36 = .ok (.iadd, 1) := by decide +kernel
theorem dX10_letterOf_37 : decode cX10_letterOf 37 = .ok (.iconst 1, 1) := by decide +kernel
theorem dX10_letterOf_38 : decode cX10_letterOf 38 = .ok (.isub, 1) := by decide +kernel
theorem dX10_letterOf_39 : decode cX10_letterOf 39 = .ok (.ireturn, 1) := by decide +kernel
theorem dX10_lettersOf_0 : decode cX10_lettersOf 0 = .ok (.iconst 0, 1) := by decide +kernel
theorem dX10_lettersOf_1 : decode cX10_lettersOf 1 = .ok (.istore_n 2, 1) := by decide +kernel
theorem dX10_lettersOf_2 : decode cX10_lettersOf 2 = .ok (.iload_n 2, 1) := by decide +kernel
theorem dX10_lettersOf_3 : decode cX10_lettersOf 3 = .ok (.bipush 7, 2) := by decide +kernel
theorem dX10_lettersOf_5 : decode cX10_lettersOf 5 = .ok (.if_icmp .ge 17, 3) := by decide +kernel
theorem dX10_lettersOf_8 : decode cX10_lettersOf 8 = .ok (.lload_n 0, 1) := by decide +kernel
theorem dX10_lettersOf_9 : decode cX10_lettersOf 9 = .ok (.iload_n 2, 1) := by decide +kernel
theorem dX10_lettersOf_10 : decode cX10_lettersOf 10 = .ok (.invokestatic 190, 3) := by decide +kernel
theorem dX10_lettersOf_13 : decode cX10_lettersOf 13 = .ok (.ifCond .eq 9, 3) := by decide +kernel
theorem dX10_lettersOf_16 : decode cX10_lettersOf 16 = .ok (.iinc 2 1, 3) := by decide +kernel
theorem dX10_lettersOf_19 : decode cX10_lettersOf 19 = .ok (.goto (-17), 3) := by decide +kernel
theorem dX10_lettersOf_22 : decode cX10_lettersOf 22 = .ok (.iload_n 2, 1) := by decide +kernel
theorem dX10_lettersOf_23 : decode cX10_lettersOf 23 = .ok (.ireturn, 1) := by decide +kernel
theorem dJ5_init_d00df_0 : decode cJ5_init_d00df 0 = .ok (.aload_n 0, 1) := by decide +kernel
theorem dJ5_init_d00df_1 : decode cJ5_init_d00df 1 = .ok (.invokespecial 3, 3) := by decide +kernel
theorem dJ5_init_d00df_4 : decode cJ5_init_d00df 4 = .ok (.getstatic 18, 3) := by decide +kernel
theorem dJ5_init_d00df_7 : decode cJ5_init_d00df 7 = .ok (.ifCond .eq 18, 3) := by decide +kernel
theorem dJ5_init_d00df_10 : decode cJ5_init_d00df 10 = .ok (.aload_n 0, 1) := by decide +kernel
theorem dJ5_init_d00df_11 : decode cJ5_init_d00df 11 = .ok (.iload_n 1, 1) := by decide +kernel
theorem dJ5_init_d00df_12 : decode cJ5_init_d00df 12 = .ok (.newarray .byte, 2) := by decide +kernel
theorem dJ5_init_d00df_14 : decode cJ5_init_d00df 14 = .ok (.putfield 15, 3) := by decide +kernel
theorem dJ5_init_d00df_17 : decode cJ5_init_d00df 17 = .ok (.aload_n 0, 1) := by decide +kernel
theorem dJ5_init_d00df_18 : decode cJ5_init_d00df 18 = .ok (.iconst 0, 1) := by decide +kernel
theorem dJ5_init_d00df_19 : decode cJ5_init_d00df 19 = .ok (.putfield 22, 3) := by decide +kernel
theorem dJ5_init_d00df_22 : decode cJ5_init_d00df 22 = .ok (.goto 16, 3) := by decide +kernel
theorem dJ5_init_d00df_25 : decode cJ5_init_d00df 25 = .ok (.aload_n 0, 1) := by decide +kernel
theorem dJ5_init_d00df_26 : decode cJ5_init_d00df 26 = .ok (.iload_n 1, 1) := by decide +kernel
theorem dJ5_init_d00df_27 : decode cJ5_init_d00df 27 = .ok (.invokestatic 26, 3) := by decide +kernel
theorem dJ5_init_d00df_30 : decode cJ5_init_d00df 30 = .ok (.putfield 15, 3) := by decide +kernel
theorem dJ5_init_d00df_33 : decode cJ5_init_d00df 33 = .ok (.aload_n 0, 1) := by decide +kernel
theorem dJ5_init_d00df_34 : decode cJ5_init_d00df 34 = .ok (.iconst 1, 1) := by decide +kernel
theorem dJ5_init_d00df_35 : decode cJ5_init_d00df 35 = .ok (.putfield 22, 3) := by decide +kernel
theorem dJ5_init_d00df_38 : decode cJ5_init_d00df 38 = .ok (.return_, 1) := by decide +kernel
theorem dJ5_length_8abf5_0 : decode cJ5_length_8abf5 0 = .ok (.aload_n 0, 1) := by decide +kernel
theorem dJ5_length_8abf5_1 : decode cJ5_length_8abf5 1 = .ok (.getfield 79, 3) := by decide +kernel
theorem dJ5_length_8abf5_4 : decode cJ5_length_8abf5 4 = .ok (.ireturn, 1) := by decide +kernel
theorem dJ5_ensureCapacityInternal_d00df_0 : decode cJ5_ensureCapacityInternal_d00df 0 = .ok (.aload_n 0, 1) := by decide +kernel
theorem dJ5_ensureCapacityInternal_d00df_1 : decode cJ5_ensureCapacityInternal_d00df 1 = .ok (.getfield 15, 3) := by decide +kernel
theorem dJ5_ensureCapacityInternal_d00df_4 : decode cJ5_ensureCapacityInternal_d00df 4 = .ok (.arraylength, 1) := by decide +kernel
theorem dJ5_ensureCapacityInternal_d00df_5 : decode cJ5_ensureCapacityInternal_d00df 5 = .ok (.aload_n 0, 1) := by decide +kernel
theorem dJ5_ensureCapacityInternal_d00df_6 : decode cJ5_ensureCapacityInternal_d00df 6 = .ok (.getfield 22, 3) := by decide +kernel
theorem dJ5_ensureCapacityInternal_d00df_9 : decode cJ5_ensureCapacityInternal_d00df 9 = .ok (.ishr, 1) := by decide +kernel
theorem dJ5_ensureCapacityInternal_d00df_10 : decode cJ5_ensureCapacityInternal_d00df 10 = .ok (.istore_n 2, 1) := by decide +kernel
theorem dJ5_ensureCapacityInternal_d00df_11 : decode cJ5_ensureCapacityInternal_d00df 11 = .ok (.iload_n 1, 1) := by decide +kernel
theorem dJ5_ensureCapacityInternal_d00df_12 : decode cJ5_ensureCapacityInternal_d00df 12 = .ok (.iload_n 2, 1) := by decide +kernel
theorem dJ5_ensureCapacityInternal_d00df_13 : decode cJ5_ensureCapacityInternal_d00df 13 = .ok (.isub, 1) := by decide +kernel
theorem dJ5_ensureCapacityInternal_d00df_14 : decode cJ5_ensureCapacityInternal_d00df 14 = .ok (.ifCond .le 24, 3) := by decide +kernel
theorem dJ5_ensureCapacityInternal_d00df_17 : decode cJ5_ensureCapacityInternal_d00df 17 = .ok (.aload_n 0, 1) := by decide +kernel
theorem dJ5_ensureCapacityInternal_d00df_18 : decode cJ5_ensureCapacityInternal_d00df 18 = .ok (.aload_n 0, 1) := by decide +kernel
theorem dJ5_ensureCapacityInternal_d00df_19 : decode cJ5_ensureCapacityInternal_d00df 19 = .ok (.getfield 15, 3) := by decide +kernel
theorem dJ5_ensureCapacityInternal_d00df_22 : decode cJ5_ensureCapacityInternal_d00df 22 = .ok (.aload_n 0, 1) := by decide +kernel
theorem dJ5_ensureCapacityInternal_d00df_23 : decode cJ5_ensureCapacityInternal_d00df 23 = .ok (.iload_n 1, 1) := by decide +kernel
theorem dJ5_ensureCapacityInternal_d00df_24 : decode cJ5_ensureCapacityInternal_d00df 24 = .ok (.invokevirtual 104, 3) := by decide +kernel
theorem dJ5_ensureCapacityInternal_d00df_27 : decode cJ5_ensureCapacityInternal_d00df 27 = .ok (.aload_n 0, 1) := by decide +kernel
theorem dJ5_ensureCapacityInternal_d00df_28 : decode cJ5_ensureCapacityInternal_d00df 28 = .ok (.getfield 22, 3) := by decide +kernel
theorem dJ5_ensureCapacityInternal_d00df_31 : decode cJ5_ensureCapacityInternal_d00df 31 = .ok (.ishl, 1) := by decide +kernel
theorem dJ5_ensureCapacityInternal_d00df_32 : decode cJ5_ensureCapacityInternal_d00df 32 = .ok (.invokestatic 108, 3) := by decide +kernel
theorem dJ5_ensureCapacityInternal_d00df_35 : decode cJ5_ensureCapacityInternal_d00df 35 = .ok (.putfield 15, 3) := by decide +kernel
theorem dJ5_ensureCapacityInternal_d00df_38 : decode cJ5_ensureCapacityInternal_d00df 38 = .ok (.return_, 1) := by decide +kernel
theorem dJ5_newCapacity_0f7a4_0 : decode cJ5_newCapacity_0f7a4 0 = .ok (.aload_n 0, 1) := by decide +kernel
theorem dJ5_newCapacity_0f7a4_1 : decode cJ5_newCapacity_0f7a4 1 = .ok (.getfield 15, 3) := by decide +kernel
theorem dJ5_newCapacity_0f7a4_4 : decode cJ5_newCapacity_0f7a4 4 = .ok (.arraylength, 1) := by decide +kernel
theorem dJ5_newCapacity_0f7a4_5 : decode cJ5_newCapacity_0f7a4 5 = .ok (.istore_n 2, 1) := by decide +kernel
theorem dJ5_newCapacity_0f7a4_6 : decode cJ5_newCapacity_0f7a4 6 = .ok (.iload_n 1, 1) := by decide +kernel
theorem dJ5_newCapacity_0f7a4_7 : decode cJ5_newCapacity_0f7a4 7 = .ok (.aload_n 0, 1) := by decide +kernel
theorem dJ5_newCapacity_0f7a4_8 : decode cJ5_newCapacity_0f7a4 8 = .ok (.getfield 22, 3) := by decide +kernel
theorem dJ5_newCapacity_0f7a4_11 : decode cJ5_newCapacity_0f7a4 11 = .ok (.ishl, 1) := by decide +kernel
theorem dJ5_newCapacity_0f7a4_12 : decode cJ5_newCapacity_0f7a4 12 = .ok (.istore_n 3, 1) := by decide +kernel
theorem dJ5_newCapacity_0f7a4_13 : decode cJ5_newCapacity_0f7a4 13 = .ok (.iload_n 3, 1) := by decide +kernel
theorem dJ5_newCapacity_0f7a4_14 : decode cJ5_newCapacity_0f7a4 14 = .ok (.iload_n 2, 1) := by decide +kernel
theorem dJ5_newCapacity_0f7a4_15 : decode cJ5_newCapacity_0f7a4 15 = .ok (.isub, 1) := by decide +kernel
theorem dJ5_newCapacity_0f7a4_16 : decode cJ5_newCapacity_0f7a4 16 = .ok (.istore 4, 2) := by decide +kernel
theorem dJ5_newCapacity_0f7a4_18 : decode cJ5_newCapacity_0f7a4 18 = .ok (.iload_n 2, 1) := by decide +kernel
theorem dJ5_newCapacity_0f7a4_19 : decode cJ5_newCapacity_0f7a4 19 = .ok (.iload 4, 2) := by decide +kernel
theorem dJ5_newCapacity_0f7a4_21 : decode cJ5_newCapacity_0f7a4 21 = .ok (.iload_n 2, 1) := by decide +kernel
theorem dJ5_newCapacity_0f7a4_22 : decode cJ5_newCapacity_0f7a4 22 = .ok (.iconst 2, 1) := by decide +kernel
theorem dJ5_newCapacity_0f7a4_23 : decode cJ5_newCapacity_0f7a4 23 = .ok (.aload_n 0, 1) := by decide +kernel
theorem dJ5_newCapacity_0f7a4_24 : decode cJ5_newCapacity_0f7a4 24 = .ok (.getfield 22, 3) := by decide +kernel
theorem dJ5_newCapacity_0f7a4_27 : decode cJ5_newCapacity_0f7a4 27 = .ok (.ishl, 1) := by decide +kernel
theorem dJ5_newCapacity_0f7a4_28 : decode cJ5_newCapacity_0f7a4 28 = .ok (.iadd, 1) := by decide +kernel
theorem dJ5_newCapacity_0f7a4_29 : decode cJ5_newCapacity_0f7a4 29 = .ok (.invokestatic 114, 3) := by decide +kernel
theorem dJ5_newCapacity_0f7a4_32 : decode cJ5_newCapacity_0f7a4 32 = .ok (.istore 5, 2) := by decide +kernel
theorem dJ5_newCapacity_0f7a4_34 : decode cJ5_newCapacity_0f7a4 34 = .ok (.iload 5, 2) := by decide +kernel
theorem dJ5_newCapacity_0f7a4_36 : decode cJ5_newCapacity_0f7a4 36 = .ok (.ldc 39, 2) := by decide +kernel
theorem dJ5_newCapacity_0f7a4_38 : decode cJ5_newCapacity_0f7a4 38 = .ok (.if_icmp .ne 13, 3) := by decide +kernel
theorem dJ5_newCapacity_0f7a4_41 : decode cJ5_newCapacity_0f7a4 41 = .ok (.new 120, 3) := by decide +kernel
theorem dJ5_newCapacity_0f7a4_44 : decode cJ5_newCapacity_0f7a4 44 = .ok (.dup, 1) := by decide +kernel
theorem dJ5_newCapacity_0f7a4_45 : decode cJ5_newCapacity_0f7a4 45 = .ok (.ldc 122, 2) := by decide +kernel
theorem dJ5_newCapacity_0f7a4_47 : decode cJ5_newCapacity_0f7a4 47 = .ok (.invokespecial 124, 3) := by decide +kernel
theorem dJ5_newCapacity_0f7a4_50 : decode cJ5_newCapacity_0f7a4 50 = .ok (.athrow, 1) := by decide +kernel
theorem dJ5_newCapacity_0f7a4_51 : decode cJ5_newCapacity_0f7a4 51 = .ok (.iload 5, 2) := by decide +kernel
theorem dJ5_newCapacity_0f7a4_53 : decode cJ5_newCapacity_0f7a4 53 = .ok (.aload_n 0, 1) := by decide +kernel
theorem dJ5_newCapacity_0f7a4_54 : decode cJ5_newCapacity_0f7a4 54 = .ok (.getfield 22, 3) := by decide +kernel
theorem dJ5_newCapacity_0f7a4_57 : decode cJ5_newCapacity_0f7a4 57 = .ok (.ishr, 1) := by decide +kernel
theorem dJ5_newCapacity_0f7a4_58 : decode cJ5_newCapacity_0f7a4 58 = .ok (.ireturn, 1) := by decide +kernel
theorem dJ5_append_cf1ce_0 : decode cJ5_append_cf1ce 0 = .ok (.aload_n 1, 1) := by decide +kernel
theorem dJ5_append_cf1ce_1 : decode cJ5_append_cf1ce 1 = .ok (.ifnonnull 8, 3) := by decide +kernel
theorem dJ5_append_cf1ce_4 : decode cJ5_append_cf1ce 4 = .ok (.aload_n 0, 1) := by decide +kernel
theorem dJ5_append_cf1ce_5 : decode cJ5_append_cf1ce 5 = .ok (.invokevirtual 204, 3) := by decide +kernel
theorem dJ5_append_cf1ce_8 : decode cJ5_append_cf1ce 8 = .ok (.areturn, 1) := by decide +kernel
theorem dJ5_append_cf1ce_9 : decode cJ5_append_cf1ce 9 = .ok (.aload_n 1, 1) := by decide +kernel
theorem dJ5_append_cf1ce_10 : decode cJ5_append_cf1ce 10 = .ok (.invokevirtual 32, 3) := by decide +kernel
theorem dJ5_append_cf1ce_13 : decode cJ5_append_cf1ce 13 = .ok (.istore_n 2, 1) := by decide +kernel
theorem dJ5_append_cf1ce_14 : decode cJ5_append_cf1ce 14 = .ok (.aload_n 0, 1) := by decide +kernel
theorem dJ5_append_cf1ce_15 : decode cJ5_append_cf1ce 15 = .ok (.aload_n 0, 1) := by decide +kernel
theorem dJ5_append_cf1ce_16 : decode cJ5_append_cf1ce 16 = .ok (.getfield 79, 3) := by decide +kernel
theorem dJ5_append_cf1ce_19 : decode cJ5_append_cf1ce 19 = .ok (.iload_n 2, 1) := by decide +kernel
theorem dJ5_append_cf1ce_20 : decode cJ5_append_cf1ce 20 = .ok (.iadd, 1) := by decide +kernel
theorem dJ5_append_cf1ce_21 : decode cJ5_append_cf1ce 21 = .ok (.invokevirtual 100, 3) := by decide +kernel
theorem dJ5_append_cf1ce_24 : decode cJ5_append_cf1ce 24 = .ok (.aload_n 0, 1) := by decide +kernel
theorem dJ5_append_cf1ce_25 : decode cJ5_append_cf1ce 25 = .ok (.aload_n 0, 1) := by decide +kernel
theorem dJ5_append_cf1ce_26 : decode cJ5_append_cf1ce 26 = .ok (.getfield 79, 3) := by decide +kernel
theorem dJ5_append_cf1ce_29 : decode cJ5_append_cf1ce 29 = .ok (.aload_n 1, 1) := by decide +kernel
theorem dJ5_append_cf1ce_30 : decode cJ5_append_cf1ce 30 = .ok (.invokevirtual 208, 3) := by decide +kernel
theorem dJ5_append_cf1ce_33 : decode cJ5_append_cf1ce 33 = .ok (.aload_n 0, 1) := by decide +kernel
theorem dJ5_append_cf1ce_34 : decode cJ5_append_cf1ce 34 = .ok (.dup, 1) := by decide +kernel
theorem dJ5_append_cf1ce_35 : decode cJ5_append_cf1ce 35 = .ok (.getfield 79, 3) := by decide +kernel
theorem dJ5_append_cf1ce_38 : decode cJ5_append_cf1ce 38 = .ok (.iload_n 2, 1) := by decide +kernel
theorem dJ5_append_cf1ce_39 : decode cJ5_append_cf1ce 39 = .ok (.iadd, 1) := by decide +kernel
theorem dJ5_append_cf1ce_40 : decode cJ5_append_cf1ce 40 = .ok (.putfield 79, 3) := by decide +kernel
theorem dJ5_append_cf1ce_43 : decode cJ5_append_cf1ce 43 = .ok (.aload_n 0, 1) := by decide +kernel
theorem dJ5_append_cf1ce_44 : decode cJ5_append_cf1ce 44 = .ok (.areturn, 1) := by decide +kernel
theorem dJ5_append_3fe6f_0 : decode cJ5_append_3fe6f 0 = .ok (.aload_n 0, 1) := by decide +kernel
theorem dJ5_append_3fe6f_1 : decode cJ5_append_3fe6f 1 = .ok (.aload_n 0, 1) := by decide +kernel
theorem dJ5_append_3fe6f_2 : decode cJ5_append_3fe6f 2 = .ok (.getfield 79, 3) := by decide +kernel
theorem dJ5_append_3fe6f_5 : decode cJ5_append_3fe6f 5 = .ok (.iconst 1, 1) := by decide +kernel
theorem dJ5_append_3fe6f_6 : decode cJ5_append_3fe6f 6 = .ok (.iadd, 1) := by decide +kernel
theorem dJ5_append_3fe6f_7 : decode cJ5_append_3fe6f 7 = .ok (.invokevirtual 100, 3) := by decide +kernel
theorem dJ5_append_3fe6f_10 : decode cJ5_append_3fe6f 10 = .ok (.aload_n 0, 1) := by decide +kernel
theorem dJ5_append_3fe6f_11 : decode cJ5_append_3fe6f 11 = .ok (.invokevirtual 83, 3) := by decide +kernel
theorem dJ5_append_3fe6f_14 : decode cJ5_append_3fe6f 14 = .ok (.ifCond .eq 31, 3) := by decide +kernel
theorem dJ5_append_3fe6f_17 : decode cJ5_append_3fe6f 17 = .ok (.iload_n 1, 1) := by decide +kernel
theorem dJ5_append_3fe6f_18 : decode cJ5_append_3fe6f 18 = .ok (.invokestatic 191, 3) := by decide +kernel
theorem dJ5_append_3fe6f_21 : decode cJ5_append_3fe6f 21 = .ok (.ifCond .eq 24, 3) := by decide +kernel
theorem dJ5_append_3fe6f_24 : decode cJ5_append_3fe6f 24 = .ok (.aload_n 0, 1) := by decide +kernel
theorem dJ5_append_3fe6f_25 : decode cJ5_append_3fe6f 25 = .ok (.getfield 15, 3) := by decide +kernel
theorem dJ5_append_3fe6f_28 : decode cJ5_append_3fe6f 28 = .ok (.aload_n 0, 1) := by decide +kernel
theorem dJ5_append_3fe6f_29 : decode cJ5_append_3fe6f 29 = .ok (.dup, 1) := by decide +kernel
theorem dJ5_append_3fe6f_30 : decode cJ5_append_3fe6f 30 = .ok (.getfield 79, 3) := by decide +kernel
theorem dJ5_append_3fe6f_33 : decode cJ5_append_3fe6f 33 = .ok (.dup_x1, 1) := by decide +kernel
theorem dJ5_append_3fe6f_34 : decode cJ5_append_3fe6f 34 = .ok (.iconst 1, 1) := by decide +kernel
theorem dJ5_append_3fe6f_35 : decode cJ5_append_3fe6f 35 = .ok (.iadd, 1) := by decide +kernel
theorem dJ5_append_3fe6f_36 : decode cJ5_append_3fe6f 36 = .ok (.putfield 79, 3) := by decide +kernel
theorem dJ5_append_3fe6f_39 : decode cJ5_append_3fe6f 39 = .ok (.iload_n 1, 1) := by decide +kernel
theorem dJ5_append_3fe6f_40 : decode cJ5_append_3fe6f 40 = .ok (.i2b, 1) := by decide +kernel
theorem dJ5_append_3fe6f_41 : decode cJ5_append_3fe6f 41 = .ok (.bastore, 1) := by decide +kernel
theorem dJ5_append_3fe6f_42 : decode cJ5_append_3fe6f 42 = .ok (.goto 33, 3) := by decide +kernel
theorem dJ5_append_3fe6f_45 : decode cJ5_append_3fe6f 45 = .ok (.aload_n 0, 1) := by decide +kernel
theorem dJ5_append_3fe6f_46 : decode cJ5_append_3fe6f 46 = .ok (.invokevirtual 83, 3) := by decide +kernel
theorem dJ5_append_3fe6f_49 : decode cJ5_append_3fe6f 49 = .ok (.ifCond .eq 7, 3) := by decide +kernel
theorem dJ5_append_3fe6f_52 : decode cJ5_append_3fe6f 52 = .ok (.aload_n 0, 1) := by decide +kernel
theorem dJ5_append_3fe6f_53 : decode cJ5_append_3fe6f 53 = .ok (.invokevirtual 195, 3) := by decide +kernel
theorem dJ5_append_3fe6f_56 : decode cJ5_append_3fe6f 56 = .ok (.aload_n 0, 1) := by decide +kernel
theorem dJ5_append_3fe6f_57 : decode cJ5_append_3fe6f 57 = .ok (.getfield 15, 3) := by decide +kernel
theorem dJ5_append_3fe6f_60 : decode cJ5_append_3fe6f 60 = .ok (.aload_n 0, 1) := by decide +kernel
theorem dJ5_append_3fe6f_61 : decode cJ5_append_3fe6f 61 = .ok (.dup, 1) := by decide +kernel
theorem dJ5_append_3fe6f_62 : decode cJ5_append_3fe6f 62 = .ok (.getfield 79, 3) := by decide +kernel
theorem dJ5_append_3fe6f_65 : decode cJ5_append_3fe6f 65 = .ok (.dup_x1, 1) := by decide +kernel
theorem dJ5_append_3fe6f_66 : decode cJ5_append_3fe6f 66 = .ok (.iconst 1, 1) := by decide +kernel
theorem dJ5_append_3fe6f_67 : decode cJ5_append_3fe6f 67 = .ok (.iadd, 1) := by decide +kernel
theorem dJ5_append_3fe6f_68 : decode cJ5_append_3fe6f 68 = .ok (.putfield 79, 3) := by decide +kernel
theorem dJ5_append_3fe6f_71 : decode cJ5_append_3fe6f 71 = .ok (.iload_n 1, 1) := by decide +kernel
theorem dJ5_append_3fe6f_72 : decode cJ5_append_3fe6f 72 = .ok (.invokestatic 197, 3) := by decide +kernel
theorem dJ5_append_3fe6f_75 : decode cJ5_append_3fe6f 75 = .ok (.aload_n 0, 1) := by decide +kernel
theorem dJ5_append_3fe6f_76 : decode cJ5_append_3fe6f 76 = .ok (.areturn, 1) := by decide +kernel
theorem dJ5_append_c97b9_0 : decode cJ5_append_c97b9 0 = .ok (.aload_n 0, 1) := by decide +kernel
theorem dJ5_append_c97b9_1 : decode cJ5_append_c97b9 1 = .ok (.getfield 79, 3) := by decide +kernel
theorem dJ5_append_c97b9_4 : decode cJ5_append_c97b9 4 = .ok (.istore_n 2, 1) := by decide +kernel
theorem dJ5_append_c97b9_5 : decode cJ5_append_c97b9 5 = .ok (.iload_n 2, 1) := by decide +kernel
theorem dJ5_append_c97b9_6 : decode cJ5_append_c97b9 6 = .ok (.iload_n 1, 1) := by decide +kernel
theorem dJ5_append_c97b9_7 : decode cJ5_append_c97b9 7 = .ok (.invokestatic 245, 3) := by decide +kernel
theorem dJ5_append_c97b9_10 : decode cJ5_append_c97b9 10 = .ok (.iadd, 1) := by decide +kernel
theorem dJ5_append_c97b9_11 : decode cJ5_append_c97b9 11 = .ok (.istore_n 3, 1) := by decide +kernel
theorem dJ5_append_c97b9_12 : decode cJ5_append_c97b9 12 = .ok (.aload_n 0, 1) := by decide +kernel
theorem dJ5_append_c97b9_13 : decode cJ5_append_c97b9 13 = .ok (.iload_n 3, 1) := by decide +kernel
theorem dJ5_append_c97b9_14 : decode cJ5_append_c97b9 14 = .ok (.invokevirtual 100, 3) := by decide +kernel
theorem dJ5_append_c97b9_17 : decode cJ5_append_c97b9 17 = .ok (.aload_n 0, 1) := by decide +kernel
theorem dJ5_append_c97b9_18 : decode cJ5_append_c97b9 18 = .ok (.invokevirtual 83, 3) := by decide +kernel
theorem dJ5_append_c97b9_21 : decode cJ5_append_c97b9 21 = .ok (.ifCond .eq 16, 3) := by decide +kernel
theorem dJ5_append_c97b9_24 : decode cJ5_append_c97b9 24 = .ok (.iload_n 1, 1) := by decide +kernel
theorem dJ5_append_c97b9_25 : decode cJ5_append_c97b9 25 = .ok (.iload_n 3, 1) := by decide +kernel
theorem dJ5_append_c97b9_26 : decode cJ5_append_c97b9 26 = .ok (.aload_n 0, 1) := by decide +kernel
theorem dJ5_append_c97b9_27 : decode cJ5_append_c97b9 27 = .ok (.getfield 15, 3) := by decide +kernel
theorem dJ5_append_c97b9_30 : decode cJ5_append_c97b9 30 = .ok (.invokestatic 248, 3) := by decide +kernel
theorem dJ5_append_c97b9_33 : decode cJ5_append_c97b9 33 = .ok (.pop, 1) := by decide +kernel
theorem dJ5_append_c97b9_34 : decode cJ5_append_c97b9 34 = .ok (.goto 14, 3) := by decide +kernel
theorem dJ5_append_c97b9_37 : decode cJ5_append_c97b9 37 = .ok (.iload_n 1, 1) := by decide +kernel
theorem dJ5_append_c97b9_38 : decode cJ5_append_c97b9 38 = .ok (.iload_n 2, 1) := by decide +kernel
theorem dJ5_append_c97b9_39 : decode cJ5_append_c97b9 39 = .ok (.iload_n 3, 1) := by decide +kernel
theorem dJ5_append_c97b9_40 : decode cJ5_append_c97b9 40 = .ok (.aload_n 0, 1) := by decide +kernel
theorem dJ5_append_c97b9_41 : decode cJ5_append_c97b9 41 = .ok (.getfield 15, 3) := by decide +kernel
theorem dJ5_append_c97b9_44 : decode cJ5_append_c97b9 44 = .ok (.invokestatic 251, 3) := by decide +kernel
theorem dJ5_append_c97b9_47 : decode cJ5_append_c97b9 47 = .ok (.pop, 1) := by decide +kernel
theorem dJ5_append_c97b9_48 : decode cJ5_append_c97b9 48 = .ok (.aload_n 0, 1) := by decide +kernel
theorem dJ5_append_c97b9_49 : decode cJ5_append_c97b9 49 = .ok (.iload_n 3, 1) := by decide +kernel
theorem dJ5_append_c97b9_50 : decode cJ5_append_c97b9 50 = .ok (.putfield 79, 3) := by decide +kernel
theorem dJ5_append_c97b9_53 : decode cJ5_append_c97b9 53 = .ok (.aload_n 0, 1) := by decide +kernel
theorem dJ5_append_c97b9_54 : decode cJ5_append_c97b9 54 = .ok (.areturn, 1) := by decide +kernel
theorem dJ5_getValue_6d5f1_0 : decode cJ5_getValue_6d5f1 0 = .ok (.aload_n 0, 1) := by decide +kernel
theorem dJ5_getValue_6d5f1_1 : decode cJ5_getValue_6d5f1 1 = .ok (.getfield 15, 3) := by decide +kernel
theorem dJ5_getValue_6d5f1_4 : decode cJ5_getValue_6d5f1 4 = .ok (.areturn, 1) := by decide +kernel
theorem dJ5_isLatin1_aae02_0 : decode cJ5_isLatin1_aae02 0 = .ok (.getstatic 18, 3) := by decide +kernel
theorem dJ5_isLatin1_aae02_3 : decode cJ5_isLatin1_aae02 3 = .ok (.ifCond .eq 14, 3) := by decide +kernel
theorem dJ5_isLatin1_aae02_6 : decode cJ5_isLatin1_aae02 6 = .ok (.aload_n 0, 1) := by decide +kernel
theorem dJ5_isLatin1_aae02_7 : decode cJ5_isLatin1_aae02 7 = .ok (.getfield 22, 3) := by decide +kernel
theorem dJ5_isLatin1_aae02_10 : decode cJ5_isLatin1_aae02 10 = .ok (.ifCond .ne 7, 3) := by decide +kernel
theorem dJ5_isLatin1_aae02_13 : decode cJ5_isLatin1_aae02 13 = .ok (.iconst 1, 1) := by decide +kernel
theorem dJ5_isLatin1_aae02_14 : decode cJ5_isLatin1_aae02 14 = .ok (.goto 4, 3) := by decide +kernel
theorem dJ5_isLatin1_aae02_17 : decode cJ5_isLatin1_aae02 17 = .ok (.iconst 0, 1) := by decide +kernel
theorem dJ5_isLatin1_aae02_18 : decode cJ5_isLatin1_aae02 18 = .ok (.ireturn, 1) := by decide +kernel
theorem dJ5_inflateIfNeededFor_a7421_0 : decode cJ5_inflateIfNeededFor_a7421 0 = .ok (.getstatic 18, 3) := by decide +kernel
theorem dJ5_inflateIfNeededFor_a7421_3 : decode cJ5_inflateIfNeededFor_a7421 3 = .ok (.ifCond .eq 18, 3) := by decide +kernel
theorem dJ5_inflateIfNeededFor_a7421_6 : decode cJ5_inflateIfNeededFor_a7421 6 = .ok (.aload_n 0, 1) := by decide +kernel
theorem dJ5_inflateIfNeededFor_a7421_7 : decode cJ5_inflateIfNeededFor_a7421 7 = .ok (.getfield 22, 3) := by decide +kernel
theorem dJ5_inflateIfNeededFor_a7421_10 : decode cJ5_inflateIfNeededFor_a7421 10 = .ok (.aload_n 1, 1) := by decide +kernel
theorem dJ5_inflateIfNeededFor_a7421_11 : decode cJ5_inflateIfNeededFor_a7421 11 = .ok (.invokevirtual 40, 3) := by decide +kernel
theorem dJ5_inflateIfNeededFor_a7421_14 : decode cJ5_inflateIfNeededFor_a7421 14 = .ok (.if_icmp .eq 7, 3) := by decide +kernel
theorem dJ5_inflateIfNeededFor_a7421_17 : decode cJ5_inflateIfNeededFor_a7421 17 = .ok (.aload_n 0, 1) := by decide +kernel
theorem dJ5_inflateIfNeededFor_a7421_18 : decode cJ5_inflateIfNeededFor_a7421 18 = .ok (.invokevirtual 195, 3) := by decide +kernel
theorem dJ5_inflateIfNeededFor_a7421_21 : decode cJ5_inflateIfNeededFor_a7421 21 = .ok (.return_, 1) := by decide +kernel
theorem dJ5_putStringAt_47b60_0 : decode cJ5_putStringAt_47b60 0 = .ok (.aload_n 0, 1) := by decide +kernel
theorem dJ5_putStringAt_47b60_1 : decode cJ5_putStringAt_47b60 1 = .ok (.aload_n 2, 1) := by decide +kernel
theorem dJ5_putStringAt_47b60_2 : decode cJ5_putStringAt_47b60 2 = .ok (.invokevirtual 397, 3) := by decide +kernel
theorem dJ5_putStringAt_47b60_5 : decode cJ5_putStringAt_47b60 5 = .ok (.aload_n 2, 1) := by decide +kernel
theorem dJ5_putStringAt_47b60_6 : decode cJ5_putStringAt_47b60 6 = .ok (.aload_n 0, 1) := by decide +kernel
theorem dJ5_putStringAt_47b60_7 : decode cJ5_putStringAt_47b60 7 = .ok (.getfield 15, 3) := by decide +kernel
theorem dJ5_putStringAt_47b60_10 : decode cJ5_putStringAt_47b60 10 = .ok (.iload_n 1, 1) := by decide +kernel
theorem dJ5_putStringAt_47b60_11 : decode cJ5_putStringAt_47b60 11 = .ok (.aload_n 0, 1) := by decide +kernel
theorem dJ5_putStringAt_47b60_12 : decode cJ5_putStringAt_47b60 12 = .ok (.getfield 22, 3) := by decide +kernel
theorem dJ5_putStringAt_47b60_15 : decode cJ5_putStringAt_47b60 15 = .ok (.invokevirtual 399, 3) := by decide +kernel
theorem dJ5_putStringAt_47b60_18 : decode cJ5_putStringAt_47b60 18 = .ok (.return_, 1) := by decide +kernel
theorem dJ6_getChars_ba4f3_0 : decode cJ6_getChars_ba4f3 0 = .ok (.iload_n 1, 1) := by decide +kernel
theorem dJ6_getChars_ba4f3_1 : decode cJ6_getChars_ba4f3 1 = .ok (.istore 5, 2) := by decide +kernel
theorem dJ6_getChars_ba4f3_3 : decode cJ6_getChars_ba4f3 3 = .ok (.iload_n 0, 1) := by decide +kernel
theorem dJ6_getChars_ba4f3_4 : decode cJ6_getChars_ba4f3 4 = .ok (.ifCond .ge 7, 3) := by decide +kernel
theorem dJ6_getChars_ba4f3_7 : decode cJ6_getChars_ba4f3 7 = .ok (.iconst 1, 1) := by decide +kernel
theorem dJ6_getChars_ba4f3_8 : decode cJ6_getChars_ba4f3 8 = .ok (.goto 4, 3) := by decide +kernel
theorem dJ6_getChars_ba4f3_11 : decode cJ6_getChars_ba4f3 11 = .ok (.iconst 0, 1) := by decide +kernel
theorem dJ6_getChars_ba4f3_12 : decode cJ6_getChars_ba4f3 12 = .ok (.istore 6, 2) := by decide +kernel
theorem dJ6_getChars_ba4f3_14 : decode cJ6_getChars_ba4f3 14 = .ok (.iload 6, 2) := by decide +kernel
theorem dJ6_getChars_ba4f3_16 : decode cJ6_getChars_ba4f3 16 = .ok (.ifCond .ne 6, 3) := by decide +kernel
theorem dJ6_getChars_ba4f3_19 : decode cJ6_getChars_ba4f3 19 = .ok (.iload_n 0, 1) := by decide +kernel
theorem dJ6_getChars_ba4f3_20 : decode cJ6_getChars_ba4f3 20 = .ok (.ineg, 1) := by decide +kernel
theorem dJ6_getChars_ba4f3_21 : decode cJ6_getChars_ba4f3 21 = .ok (.istore_n 0, 1) := by decide +kernel
theorem dJ6_getChars_ba4f3_22 : decode cJ6_getChars_ba4f3 22 = .ok (.iload_n 0, 1) := by decide +kernel
theorem dJ6_getChars_ba4f3_23 : decode cJ6_getChars_ba4f3 23 = .ok (.bipush (-100), 2) := by decide +kernel
theorem dJ6_getChars_ba4f3_25 : decode cJ6_getChars_ba4f3 25 = .ok (.if_icmp .gt 47, 3) := by decide +kernel
theorem dJ6_getChars_ba4f3_28 : decode cJ6_getChars_ba4f3 28 = .ok (.iload_n 0, 1) := by decide +kernel
theorem dJ6_getChars_ba4f3_29 : decode cJ6_getChars_ba4f3 29 = .ok (.bipush 100, 2) := by decide +kernel
theorem dJ6_getChars_ba4f3_31 : decode cJ6_getChars_ba4f3 31 = .ok (.idiv, 1) := by decide +kernel
theorem dJ6_getChars_ba4f3_32 : decode cJ6_getChars_ba4f3 32 = .ok (.istore_n 3, 1) := by decide +kernel
theorem dJ6_getChars_ba4f3_33 : decode cJ6_getChars_ba4f3 33 = .ok (.iload_n 3, 1) := by decide +kernel
theorem dJ6_getChars_ba4f3_34 : decode cJ6_getChars_ba4f3 34 = .ok (.bipush 100, 2) := by decide +kernel
theorem dJ6_getChars_ba4f3_36 : decode cJ6_getChars_ba4f3 36 = .ok (.imul, 1) := by decide +kernel
theorem dJ6_getChars_ba4f3_37 : decode cJ6_getChars_ba4f3 37 = .ok (.iload_n 0, 1) := by decide +kernel
theorem dJ6_getChars_ba4f3_38 : decode cJ6_getChars_ba4f3 38 = .ok (.isub, 1) := by decide +kernel
theorem dJ6_getChars_ba4f3_39 : decode cJ6_getChars_ba4f3 39 = .ok (.istore 4, 2) := by decide +kernel
theorem dJ6_getChars_ba4f3_41 : decode cJ6_getChars_ba4f3 41 = .ok (.iload_n 3, 1) := by decide +kernel
theorem dJ6_getChars_ba4f3_42 : decode cJ6_getChars_ba4f3 42 = .ok (.istore_n 0, 1) := by decide +kernel
theorem dJ6_getChars_ba4f3_43 : decode cJ6_getChars_ba4f3 43 = .ok (.aload_n 2, 1) := by decide +kernel
theorem dJ6_getChars_ba4f3_44 : decode cJ6_getChars_ba4f3 44 = .ok (.iinc 5 (-1), 3) := by decide +kernel
theorem dJ6_getChars_ba4f3_47 : decode cJ6_getChars_ba4f3 47 = .ok (.iload 5, 2) := by decide +kernel
theorem dJ6_getChars_ba4f3_49 : decode cJ6_getChars_ba4f3 49 = .ok (.getstatic 83, 3) := by decide +kernel
theorem dJ6_getChars_ba4f3_52 : decode cJ6_getChars_ba4f3 52 = .ok (.iload 4, 2) := by decide +kernel
theorem dJ6_getChars_ba4f3_54 : decode cJ6_getChars_ba4f3 54 = .ok (.baload, 1) := by decide +kernel
theorem dJ6_getChars_ba4f3_55 : decode cJ6_getChars_ba4f3 55 = .ok (.bastore, 1) := by decide +kernel
theorem dJ6_getChars_ba4f3_56 : decode cJ6_getChars_ba4f3 56 = .ok (.aload_n 2, 1) := by decide +kernel
theorem dJ6_getChars_ba4f3_57 : decode cJ6_getChars_ba4f3 57 = .ok (.iinc 5 (-1), 3) := by decide +kernel
theorem dJ6_getChars_ba4f3_60 : decode cJ6_getChars_ba4f3 60 = .ok (.iload 5, 2) := by decide +kernel
theorem dJ6_getChars_ba4f3_62 : decode cJ6_getChars_ba4f3 62 = .ok (.getstatic 87, 3) := by decide +kernel
theorem dJ6_getChars_ba4f3_65 : decode cJ6_getChars_ba4f3 65 = .ok (.iload 4, 2) := by decide +kernel
theorem dJ6_getChars_ba4f3_67 : decode cJ6_getChars_ba4f3 67 = .ok (.baload, 1) := by decide +kernel
theorem dJ6_getChars_ba4f3_68 : decode cJ6_getChars_ba4f3 68 = .ok (.bastore, 1) := by decide +kernel
theorem dJ6_getChars_ba4f3_69 : decode cJ6_getChars_ba4f3 69 = .ok (.goto (-47), 3) := by decide +kernel
theorem dJ6_getChars_ba4f3_72 : decode cJ6_getChars_ba4f3 72 = .ok (.aload_n 2, 1) := by decide +kernel
theorem dJ6_getChars_ba4f3_73 : decode cJ6_getChars_ba4f3 73 = .ok (.iinc 5 (-1), 3) := by decide +kernel
theorem dJ6_getChars_ba4f3_76 : decode cJ6_getChars_ba4f3 76 = .ok (.iload 5, 2) := by decide +kernel
theorem dJ6_getChars_ba4f3_78 : decode cJ6_getChars_ba4f3 78 = .ok (.getstatic 83, 3) := by decide +kernel
theorem dJ6_getChars_ba4f3_81 : decode cJ6_getChars_ba4f3 81 = .ok (.iload_n 0, 1) := by decide +kernel
theorem dJ6_getChars_ba4f3_82 : decode cJ6_getChars_ba4f3 82 = .ok (.ineg, 1) := by decide +kernel
theorem dJ6_getChars_ba4f3_83 : decode cJ6_getChars_ba4f3 83 = .ok (.baload, 1) := by decide +kernel
theorem dJ6_getChars_ba4f3_84 : decode cJ6_getChars_ba4f3 84 = .ok (.bastore, 1) := by decide +kernel
theorem dJ6_getChars_ba4f3_85 : decode cJ6_getChars_ba4f3 85 = .ok (.iload_n 0, 1) := by decide +kernel
theorem dJ6_getChars_ba4f3_86 : decode cJ6_getChars_ba4f3 86 = .ok (.bipush (-9), 2) := by decide +kernel
theorem dJ6_getChars_ba4f3_88 : decode cJ6_getChars_ba4f3 88 = .ok (.if_icmp .ge 16, 3) := by decide +kernel
theorem dJ6_getChars_ba4f3_91 : decode cJ6_getChars_ba4f3 91 = .ok (.aload_n 2, 1) := by decide +kernel
theorem dJ6_getChars_ba4f3_92 : decode cJ6_getChars_ba4f3 92 = .ok (.iinc 5 (-1), 3) := by decide +kernel
theorem dJ6_getChars_ba4f3_95 : decode cJ6_getChars_ba4f3 95 = .ok (.iload 5, 2) := by decide +kernel
theorem dJ6_getChars_ba4f3_97 : decode cJ6_getChars_ba4f3 97 = .ok (.getstatic 87, 3) := by decide +kernel
theorem dJ6_getChars_ba4f3_100 : decode cJ6_getChars_ba4f3 100 = .ok (.iload_n 0, 1) := by decide +kernel
theorem dJ6_getChars_ba4f3_101 : decode cJ6_getChars_ba4f3 101 = .ok (.ineg, 1) := by decide +kernel
theorem dJ6_getChars_ba4f3_102 : decode cJ6_getChars_ba4f3 102 = .ok (.baload, 1) := by decide +kernel
theorem dJ6_getChars_ba4f3_103 : decode cJ6_getChars_ba4f3 103 = .ok (.bastore, 1) := by decide +kernel
theorem dJ6_getChars_ba4f3_104 : decode cJ6_getChars_ba4f3 104 = .ok (.iload 6, 2) := by decide +kernel
theorem dJ6_getChars_ba4f3_106 : decode cJ6_getChars_ba4f3 106 = .ok (.ifCond .eq 12, 3) := by decide +kernel
theorem dJ6_getChars_ba4f3_109 : decode cJ6_getChars_ba4f3 109 = .ok (.aload_n 2, 1) := by decide +kernel
theorem dJ6_getChars_ba4f3_110 : decode cJ6_getChars_ba4f3 110 = .ok (.iinc 5 (-1), 3) := by decide +kernel
theorem dJ6_getChars_ba4f3_113 : decode cJ6_getChars_ba4f3 113 = .ok (.iload 5, 2) := by decide +kernel
theorem dJ6_getChars_ba4f3_115 : decode cJ6_getChars_ba4f3 115 = .ok (.bipush 45, 2) := by decide +kernel
theorem dJ6_getChars_ba4f3_117 : decode cJ6_getChars_ba4f3 117 = .ok (.bastore, 1) := by decide +kernel
theorem dJ6_getChars_ba4f3_118 : decode cJ6_getChars_ba4f3 118 = .ok (.iload 5, 2) := by decide +kernel
theorem dJ6_getChars_ba4f3_120 : decode cJ6_getChars_ba4f3 120 = .ok (.ireturn, 1) := by decide +kernel
theorem dJ6_stringSize_0f7a4_0 : decode cJ6_stringSize_0f7a4 0 = .ok (.iconst 1, 1) := by decide +kernel
theorem dJ6_stringSize_0f7a4_1 : decode cJ6_stringSize_0f7a4 1 = .ok (.istore_n 1, 1) := by decide +kernel
theorem dJ6_stringSize_0f7a4_2 : decode cJ6_stringSize_0f7a4 2 = .ok (.iload_n 0, 1) := by decide +kernel
theorem dJ6_stringSize_0f7a4_3 : decode cJ6_stringSize_0f7a4 3 = .ok (.ifCond .lt 8, 3) := by decide +kernel
theorem dJ6_stringSize_0f7a4_6 : decode cJ6_stringSize_0f7a4 6 = .ok (.iconst 0, 1) := by decide +kernel
theorem dJ6_stringSize_0f7a4_7 : decode cJ6_stringSize_0f7a4 7 = .ok (.istore_n 1, 1) := by decide +kernel
theorem dJ6_stringSize_0f7a4_8 : decode cJ6_stringSize_0f7a4 8 = .ok (.iload_n 0, 1) := by decide +kernel
theorem dJ6_stringSize_0f7a4_9 : decode cJ6_stringSize_0f7a4 9 = .ok (.ineg, 1) := by decide +kernel
theorem dJ6_stringSize_0f7a4_10 : decode cJ6_stringSize_0f7a4 10 = .ok (.istore_n 0, 1) := by decide +kernel
theorem dJ6_stringSize_0f7a4_11 : decode cJ6_stringSize_0f7a4 11 = .ok (.bipush (-10), 2) := by decide +kernel
theorem dJ6_stringSize_0f7a4_13 : decode cJ6_stringSize_0f7a4 13 = .ok (.istore_n 2, 1) := by decide +kernel
theorem dJ6_stringSize_0f7a4_14 : decode cJ6_stringSize_0f7a4 14 = .ok (.iconst 1, 1) := by decide +kernel
theorem dJ6_stringSize_0f7a4_15 : decode cJ6_stringSize_0f7a4 15 = .ok (.istore_n 3, 1) := by decide +kernel
theorem dJ6_stringSize_0f7a4_16 : decode cJ6_stringSize_0f7a4 16 = .ok (.iload_n 3, 1) := by decide +kernel
theorem dJ6_stringSize_0f7a4_17 : decode cJ6_stringSize_0f7a4 17 = .ok (.bipush 10, 2) := by decide +kernel
theorem dJ6_stringSize_0f7a4_19 : decode cJ6_stringSize_0f7a4 19 = .ok (.if_icmp .ge 23, 3) := by decide +kernel
theorem dJ6_stringSize_0f7a4_22 : decode cJ6_stringSize_0f7a4 22 = .ok (.iload_n 0, 1) := by decide +kernel
theorem dJ6_stringSize_0f7a4_23 : decode cJ6_stringSize_0f7a4 23 = .ok (.iload_n 2, 1) := by decide +kernel
theorem dJ6_stringSize_0f7a4_24 : decode cJ6_stringSize_0f7a4 24 = .ok (.if_icmp .le 7, 3) := by decide +kernel
theorem dJ6_stringSize_0f7a4_27 : decode cJ6_stringSize_0f7a4 27 = .ok (.iload_n 3, 1) := by decide +kernel
theorem dJ6_stringSize_0f7a4_28 : decode cJ6_stringSize_0f7a4 28 = .ok (.iload_n 1, 1) := by decide +kernel
theorem dJ6_stringSize_0f7a4_29 : decode cJ6_stringSize_0f7a4 29 = .ok (.iadd, 1) := by decide +kernel
theorem dJ6_stringSize_0f7a4_30 : decode cJ6_stringSize_0f7a4 30 = .ok (.ireturn, 1) := by decide +kernel
theorem dJ6_stringSize_0f7a4_31 : decode cJ6_stringSize_0f7a4 31 = .ok (.bipush 10, 2) := by decide +kernel
theorem dJ6_stringSize_0f7a4_33 : decode cJ6_stringSize_0f7a4 33 = .ok (.iload_n 2, 1) := by decide +kernel
theorem dJ6_stringSize_0f7a4_34 : decode cJ6_stringSize_0f7a4 34 = .ok (.imul, 1) := by decide +kernel
theorem dJ6_stringSize_0f7a4_35 : decode cJ6_stringSize_0f7a4 35 = .ok (.istore_n 2, 1) := by decide +kernel
theorem dJ6_stringSize_0f7a4_36 : decode cJ6_stringSize_0f7a4 36 = .ok (.iinc 3 1, 3) := by decide +kernel
theorem dJ6_stringSize_0f7a4_39 : decode cJ6_stringSize_0f7a4 39 = .ok (.goto (-23), 3) := by decide +kernel
theorem dJ6_stringSize_0f7a4_42 : decode cJ6_stringSize_0f7a4 42 = .ok (.bipush 10, 2) := by decide +kernel
theorem dJ6_stringSize_0f7a4_44 : decode cJ6_stringSize_0f7a4 44 = .ok (.iload_n 1, 1) := by decide +kernel
theorem dJ6_stringSize_0f7a4_45 : decode cJ6_stringSize_0f7a4 45 = .ok (.iadd, 1) := by decide +kernel
theorem dJ6_stringSize_0f7a4_46 : decode cJ6_stringSize_0f7a4 46 = .ok (.ireturn, 1) := by decide +kernel
theorem dJ9_max_7cf53_0 : decode cJ9_max_7cf53 0 = .ok (.iload_n 0, 1) := by decide +kernel
theorem dJ9_max_7cf53_1 : decode cJ9_max_7cf53 1 = .ok (.iload_n 1, 1) := by decide +kernel
theorem dJ9_max_7cf53_2 : decode cJ9_max_7cf53 2 = .ok (.if_icmp .lt 7, 3) := by decide +kernel
theorem dJ9_max_7cf53_5 : decode cJ9_max_7cf53 5 = .ok (.iload_n 0, 1) := by decide +kernel
theorem dJ9_max_7cf53_6 : decode cJ9_max_7cf53 6 = .ok (.goto 4, 3) := by decide +kernel
theorem dJ9_max_7cf53_9 : decode cJ9_max_7cf53 9 = .ok (.iload_n 1, 1) := by decide +kernel
theorem dJ9_max_7cf53_10 : decode cJ9_max_7cf53 10 = .ok (.ireturn, 1) := by decide +kernel
theorem dJ9_min_7cf53_0 : decode cJ9_min_7cf53 0 = .ok (.iload_n 0, 1) := by decide +kernel
theorem dJ9_min_7cf53_1 : decode cJ9_min_7cf53 1 = .ok (.iload_n 1, 1) := by decide +kernel
theorem dJ9_min_7cf53_2 : decode cJ9_min_7cf53 2 = .ok (.if_icmp .gt 7, 3) := by decide +kernel
theorem dJ9_min_7cf53_5 : decode cJ9_min_7cf53 5 = .ok (.iload_n 0, 1) := by decide +kernel
theorem dJ9_min_7cf53_6 : decode cJ9_min_7cf53 6 = .ok (.goto 4, 3) := by decide +kernel
theorem dJ9_min_7cf53_9 : decode cJ9_min_7cf53 9 = .ok (.iload_n 1, 1) := by decide +kernel
theorem dJ9_min_7cf53_10 : decode cJ9_min_7cf53 10 = .ok (.ireturn, 1) := by decide +kernel
theorem dJ0_init_81219_0 : decode cJ0_init_81219 0 = .ok (.aload_n 0, 1) := by decide +kernel
theorem dJ0_init_81219_1 : decode cJ0_init_81219 1 = .ok (.aload_n 1, 1) := by decide +kernel
theorem dJ0_init_81219_2 : decode cJ0_init_81219 2 = .ok (.aconst_null, 1) := by decide +kernel
theorem dJ0_init_81219_3 : decode cJ0_init_81219 3 = .ok (.invokespecial 489, 3) := by decide +kernel
theorem dJ0_init_81219_6 : decode cJ0_init_81219 6 = .ok (.return_, 1) := by decide +kernel
theorem dJ0_length_8abf5_0 : decode cJ0_length_8abf5 0 = .ok (.aload_n 0, 1) := by decide +kernel
theorem dJ0_length_8abf5_1 : decode cJ0_length_8abf5 1 = .ok (.getfield 9, 3) := by decide +kernel
theorem dJ0_length_8abf5_4 : decode cJ0_length_8abf5 4 = .ok (.arraylength, 1) := by decide +kernel
theorem dJ0_length_8abf5_5 : decode cJ0_length_8abf5 5 = .ok (.aload_n 0, 1) := by decide +kernel
theorem dJ0_length_8abf5_6 : decode cJ0_length_8abf5 6 = .ok (.invokevirtual 335, 3) := by decide +kernel
theorem dJ0_length_8abf5_9 : decode cJ0_length_8abf5 9 = .ok (.ishr, 1) := by decide +kernel
theorem dJ0_length_8abf5_10 : decode cJ0_length_8abf5 10 = .ok (.ireturn, 1) := by decide +kernel
theorem dJ0_charAt_5068e_0 : decode cJ0_charAt_5068e 0 = .ok (.aload_n 0, 1) := by decide +kernel
theorem dJ0_charAt_5068e_1 : decode cJ0_charAt_5068e 1 = .ok (.invokevirtual 492, 3) := by decide +kernel
theorem dJ0_charAt_5068e_4 : decode cJ0_charAt_5068e 4 = .ok (.ifCond .eq 12, 3) := by decide +kernel
theorem dJ0_charAt_5068e_7 : decode cJ0_charAt_5068e 7 = .ok (.aload_n 0, 1) := by decide +kernel
theorem dJ0_charAt_5068e_8 : decode cJ0_charAt_5068e 8 = .ok (.getfield 9, 3) := by decide +kernel
theorem dJ0_charAt_5068e_11 : decode cJ0_charAt_5068e 11 = .ok (.iload_n 1, 1) := by decide +kernel
theorem dJ0_charAt_5068e_12 : decode cJ0_charAt_5068e 12 = .ok (.invokestatic 495, 3) := by decide +kernel
theorem dJ0_charAt_5068e_15 : decode cJ0_charAt_5068e 15 = .ok (.ireturn, 1) := by decide +kernel
theorem dJ0_charAt_5068e_16 : decode cJ0_charAt_5068e 16 = .ok (.aload_n 0, 1) := by decide +kernel
theorem dJ0_charAt_5068e_17 : decode cJ0_charAt_5068e 17 = .ok (.getfield 9, 3) := by decide +kernel
theorem dJ0_charAt_5068e_20 : decode cJ0_charAt_5068e 20 = .ok (.iload_n 1, 1) := by decide +kernel
theorem dJ0_charAt_5068e_21 : decode cJ0_charAt_5068e 21 = .ok (.invokestatic 498, 3) := by decide +kernel
theorem dJ0_charAt_5068e_24 : decode cJ0_charAt_5068e 24 = .ok (.ireturn, 1) := by decide +kernel
theorem dJ0_getBytes_840e7_0 : decode cJ0_getBytes_840e7 0 = .ok (.aload_n 0, 1) := by decide +kernel
theorem dJ0_getBytes_840e7_1 : decode cJ0_getBytes_840e7 1 = .ok (.invokevirtual 335, 3) := by decide +kernel
theorem dJ0_getBytes_840e7_4 : decode cJ0_getBytes_840e7 4 = .ok (.iload_n 3, 1) := by decide +kernel
theorem dJ0_getBytes_840e7_5 : decode cJ0_getBytes_840e7 5 = .ok (.if_icmp .ne 23, 3) := by decide +kernel
theorem dJ0_getBytes_840e7_8 : decode cJ0_getBytes_840e7 8 = .ok (.aload_n 0, 1) := by decide +kernel
theorem dJ0_getBytes_840e7_9 : decode cJ0_getBytes_840e7 9 = .ok (.getfield 9, 3) := by decide +kernel
theorem dJ0_getBytes_840e7_12 : decode cJ0_getBytes_840e7 12 = .ok (.iconst 0, 1) := by decide +kernel
theorem dJ0_getBytes_840e7_13 : decode cJ0_getBytes_840e7 13 = .ok (.aload_n 1, 1) := by decide +kernel
theorem dJ0_getBytes_840e7_14 : decode cJ0_getBytes_840e7 14 = .ok (.iload_n 2, 1) := by decide +kernel
theorem dJ0_getBytes_840e7_15 : decode cJ0_getBytes_840e7 15 = .ok (.iload_n 3, 1) := by decide +kernel
theorem dJ0_getBytes_840e7_16 : decode cJ0_getBytes_840e7 16 = .ok (.ishl, 1) := by decide +kernel
theorem dJ0_getBytes_840e7_17 : decode cJ0_getBytes_840e7 17 = .ok (.aload_n 0, 1) := by decide +kernel
theorem dJ0_getBytes_840e7_18 : decode cJ0_getBytes_840e7 18 = .ok (.getfield 9, 3) := by decide +kernel
theorem dJ0_getBytes_840e7_21 : decode cJ0_getBytes_840e7 21 = .ok (.arraylength, 1) := by decide +kernel
theorem dJ0_getBytes_840e7_22 : decode cJ0_getBytes_840e7 22 = .ok (.invokestatic 212, 3) := by decide +kernel
theorem dJ0_getBytes_840e7_25 : decode cJ0_getBytes_840e7 25 = .ok (.goto 18, 3) := by decide +kernel
theorem dJ0_getBytes_840e7_28 : decode cJ0_getBytes_840e7 28 = .ok (.aload_n 0, 1) := by decide +kernel
theorem dJ0_getBytes_840e7_29 : decode cJ0_getBytes_840e7 29 = .ok (.getfield 9, 3) := by decide +kernel
theorem dJ0_getBytes_840e7_32 : decode cJ0_getBytes_840e7 32 = .ok (.iconst 0, 1) := by decide +kernel
theorem dJ0_getBytes_840e7_33 : decode cJ0_getBytes_840e7 33 = .ok (.aload_n 1, 1) := by decide +kernel
theorem dJ0_getBytes_840e7_34 : decode cJ0_getBytes_840e7 34 = .ok (.iload_n 2, 1) := by decide +kernel
theorem dJ0_getBytes_840e7_35 : decode cJ0_getBytes_840e7 35 = .ok (.aload_n 0, 1) := by decide +kernel
theorem dJ0_getBytes_840e7_36 : decode cJ0_getBytes_840e7 36 = .ok (.getfield 9, 3) := by decide +kernel
theorem dJ0_getBytes_840e7_39 : decode cJ0_getBytes_840e7 39 = .ok (.arraylength, 1) := by decide +kernel
theorem dJ0_getBytes_840e7_40 : decode cJ0_getBytes_840e7 40 = .ok (.invokestatic 106, 3) := by decide +kernel
theorem dJ0_getBytes_840e7_43 : decode cJ0_getBytes_840e7 43 = .ok (.return_, 1) := by decide +kernel
theorem dJ0_init_db425_0 : decode cJ0_init_db425 0 = .ok (.aload_n 0, 1) := by decide +kernel
theorem dJ0_init_db425_1 : decode cJ0_init_db425 1 = .ok (.invokespecial 1, 3) := by decide +kernel
theorem dJ0_init_db425_4 : decode cJ0_init_db425 4 = .ok (.aload_n 1, 1) := by decide +kernel
theorem dJ0_init_db425_5 : decode cJ0_init_db425 5 = .ok (.invokevirtual 552, 3) := by decide +kernel
theorem dJ0_init_db425_8 : decode cJ0_init_db425 8 = .ok (.astore_n 3, 1) := by decide +kernel
theorem dJ0_init_db425_9 : decode cJ0_init_db425 9 = .ok (.aload_n 1, 1) := by decide +kernel
theorem dJ0_init_db425_10 : decode cJ0_init_db425 10 = .ok (.invokevirtual 549, 3) := by decide +kernel
theorem dJ0_init_db425_13 : decode cJ0_init_db425 13 = .ok (.istore 4, 2) := by decide +kernel
theorem dJ0_init_db425_15 : decode cJ0_init_db425 15 = .ok (.aload_n 1, 1) := by decide +kernel
theorem dJ0_init_db425_16 : decode cJ0_init_db425 16 = .ok (.invokevirtual 1047, 3) := by decide +kernel
theorem dJ0_init_db425_19 : decode cJ0_init_db425 19 = .ok (.ifCond .eq 22, 3) := by decide +kernel
theorem dJ0_init_db425_22 : decode cJ0_init_db425 22 = .ok (.aload_n 0, 1) := by decide +kernel
theorem dJ0_init_db425_23 : decode cJ0_init_db425 23 = .ok (.iconst 0, 1) := by decide +kernel
theorem dJ0_init_db425_24 : decode cJ0_init_db425 24 = .ok (.putfield 15, 3) := by decide +kernel
theorem dJ0_init_db425_27 : decode cJ0_init_db425 27 = .ok (.aload_n 0, 1) := by decide +kernel
theorem dJ0_init_db425_28 : decode cJ0_init_db425 28 = .ok (.aload_n 3, 1) := by decide +kernel
theorem dJ0_init_db425_29 : decode cJ0_init_db425 29 = .ok (.iconst 0, 1) := by decide +kernel
theorem dJ0_init_db425_30 : decode cJ0_init_db425 30 = .ok (.iload 4, 2) := by decide +kernel
theorem dJ0_init_db425_32 : decode cJ0_init_db425 32 = .ok (.invokestatic 54, 3) := by decide +kernel
theorem dJ0_init_db425_35 : decode cJ0_init_db425 35 = .ok (.putfield 9, 3) := by decide +kernel
theorem dJ0_init_db425_38 : decode cJ0_init_db425 38 = .ok (.goto 59, 3) := by decide +kernel
theorem dJ0_init_db425_41 : decode cJ0_init_db425 41 = .ok (.getstatic 38, 3) := by decide +kernel
theorem dJ0_init_db425_44 : decode cJ0_init_db425 44 = .ok (.ifCond .eq 35, 3) := by decide +kernel
theorem dJ0_init_db425_47 : decode cJ0_init_db425 47 = .ok (.aload_n 1, 1) := by decide +kernel
theorem dJ0_init_db425_48 : decode cJ0_init_db425 48 = .ok (.getfield 1048, 3) := by decide +kernel
theorem dJ0_init_db425_51 : decode cJ0_init_db425 51 = .ok (.ifCond .eq 28, 3) := by decide +kernel
theorem dJ0_init_db425_54 : decode cJ0_init_db425 54 = .ok (.aload_n 0, 1) := by decide +kernel
theorem dJ0_init_db425_55 : decode cJ0_init_db425 55 = .ok (.aload_n 3, 1) := by decide +kernel
theorem dJ0_init_db425_56 : decode cJ0_init_db425 56 = .ok (.iconst 0, 1) := by decide +kernel
theorem dJ0_init_db425_57 : decode cJ0_init_db425 57 = .ok (.iload 4, 2) := by decide +kernel
theorem dJ0_init_db425_59 : decode cJ0_init_db425 59 = .ok (.invokestatic 1051, 3) := by decide +kernel
theorem dJ0_init_db425_62 : decode cJ0_init_db425 62 = .ok (.putfield 9, 3) := by decide +kernel
theorem dJ0_init_db425_65 : decode cJ0_init_db425 65 = .ok (.aload_n 0, 1) := by decide +kernel
theorem dJ0_init_db425_66 : decode cJ0_init_db425 66 = .ok (.aload_n 0, 1) := by decide +kernel
theorem dJ0_init_db425_67 : decode cJ0_init_db425 67 = .ok (.getfield 9, 3) := by decide +kernel
theorem dJ0_init_db425_70 : decode cJ0_init_db425 70 = .ok (.iload 4, 2) := by decide +kernel
theorem dJ0_init_db425_72 : decode cJ0_init_db425 72 = .ok (.invokestatic 47, 3) := by decide +kernel
theorem dJ0_init_db425_75 : decode cJ0_init_db425 75 = .ok (.putfield 15, 3) := by decide +kernel
theorem dJ0_init_db425_78 : decode cJ0_init_db425 78 = .ok (.return_, 1) := by decide +kernel
theorem dJ0_init_db425_79 : decode cJ0_init_db425 79 = .ok (.aload_n 0, 1) := by decide +kernel
theorem dJ0_init_db425_80 : decode cJ0_init_db425 80 = .ok (.iconst 1, 1) := by decide +kernel
theorem dJ0_init_db425_81 : decode cJ0_init_db425 81 = .ok (.putfield 15, 3) := by decide +kernel
theorem dJ0_init_db425_84 : decode cJ0_init_db425 84 = .ok (.aload_n 0, 1) := by decide +kernel
theorem dJ0_init_db425_85 : decode cJ0_init_db425 85 = .ok (.aload_n 3, 1) := by decide +kernel
theorem dJ0_init_db425_86 : decode cJ0_init_db425 86 = .ok (.iconst 0, 1) := by decide +kernel
theorem dJ0_init_db425_87 : decode cJ0_init_db425 87 = .ok (.iload 4, 2) := by decide +kernel
theorem dJ0_init_db425_89 : decode cJ0_init_db425 89 = .ok (.iconst 1, 1) := by decide +kernel
theorem dJ0_init_db425_90 : decode cJ0_init_db425 90 = .ok (.ishl, 1) := by decide +kernel
theorem dJ0_init_db425_91 : decode cJ0_init_db425 91 = .ok (.invokestatic 54, 3) := by decide +kernel
theorem dJ0_init_db425_94 : decode cJ0_init_db425 94 = .ok (.putfield 9, 3) := by decide +kernel
theorem dJ0_init_db425_97 : decode cJ0_init_db425 97 = .ok (.return_, 1) := by decide +kernel
theorem dJ0_coder_7d493_0 : decode cJ0_coder_7d493 0 = .ok (.getstatic 38, 3) := by decide +kernel
theorem dJ0_coder_7d493_3 : decode cJ0_coder_7d493 3 = .ok (.ifCond .eq 10, 3) := by decide +kernel
theorem dJ0_coder_7d493_6 : decode cJ0_coder_7d493 6 = .ok (.aload_n 0, 1) := by decide +kernel
theorem dJ0_coder_7d493_7 : decode cJ0_coder_7d493 7 = .ok (.getfield 15, 3) := by decide +kernel
theorem dJ0_coder_7d493_10 : decode cJ0_coder_7d493 10 = .ok (.goto 4, 3) := by decide +kernel
theorem dJ0_coder_7d493_13 : decode cJ0_coder_7d493 13 = .ok (.iconst 1, 1) := by decide +kernel
theorem dJ0_coder_7d493_14 : decode cJ0_coder_7d493 14 = .ok (.ireturn, 1) := by decide +kernel
theorem dJ0_isLatin1_aae02_0 : decode cJ0_isLatin1_aae02 0 = .ok (.getstatic 38, 3) := by decide +kernel
theorem dJ0_isLatin1_aae02_3 : decode cJ0_isLatin1_aae02 3 = .ok (.ifCond .eq 14, 3) := by decide +kernel
theorem dJ0_isLatin1_aae02_6 : decode cJ0_isLatin1_aae02 6 = .ok (.aload_n 0, 1) := by decide +kernel
theorem dJ0_isLatin1_aae02_7 : decode cJ0_isLatin1_aae02 7 = .ok (.getfield 15, 3) := by decide +kernel
theorem dJ0_isLatin1_aae02_10 : decode cJ0_isLatin1_aae02 10 = .ok (.ifCond .ne 7, 3) := by decide +kernel
theorem dJ0_isLatin1_aae02_13 : decode cJ0_isLatin1_aae02 13 = .ok (.iconst 1, 1) := by decide +kernel
theorem dJ0_isLatin1_aae02_14 : decode cJ0_isLatin1_aae02 14 = .ok (.goto 4, 3) := by decide +kernel
theorem dJ0_isLatin1_aae02_17 : decode cJ0_isLatin1_aae02 17 = .ok (.iconst 0, 1) := by decide +kernel
theorem dJ0_isLatin1_aae02_18 : decode cJ0_isLatin1_aae02 18 = .ok (.ireturn, 1) := by decide +kernel
theorem dJ0_checkIndex_df160_0 : decode cJ0_checkIndex_df160 0 = .ok (.iload_n 0, 1) := by decide +kernel
theorem dJ0_checkIndex_df160_1 : decode cJ0_checkIndex_df160 1 = .ok (.iload_n 1, 1) := by decide +kernel
theorem dJ0_checkIndex_df160_2 : decode cJ0_checkIndex_df160 2 = .ok (.getstatic 1053, 3) := by decide +kernel
theorem dJ0_checkIndex_df160_5 : decode cJ0_checkIndex_df160 5 = .ok (.invokestatic 1059, 3) := by decide +kernel
theorem dJ0_checkIndex_df160_8 : decode cJ0_checkIndex_df160 8 = .ok (.pop, 1) := by decide +kernel
theorem dJ0_checkIndex_df160_9 : decode cJ0_checkIndex_df160 9 = .ok (.return_, 1) := by decide +kernel
theorem dJ4_init_da8c8_0 : decode cJ4_init_da8c8 0 = .ok (.aload_n 0, 1) := by decide +kernel
theorem dJ4_init_da8c8_1 : decode cJ4_init_da8c8 1 = .ok (.bipush 16, 2) := by decide +kernel
theorem dJ4_init_da8c8_3 : decode cJ4_init_da8c8 3 = .ok (.invokespecial 1, 3) := by decide +kernel
theorem dJ4_init_da8c8_6 : decode cJ4_init_da8c8 6 = .ok (.return_, 1) := by decide +kernel
theorem dJ4_append_15ec4_0 : decode cJ4_append_15ec4 0 = .ok (.aload_n 0, 1) := by decide +kernel
theorem dJ4_append_15ec4_1 : decode cJ4_append_15ec4 1 = .ok (.aload_n 1, 1) := by decide +kernel
theorem dJ4_append_15ec4_2 : decode cJ4_append_15ec4 2 = .ok (.invokespecial 29, 3) := by decide +kernel
theorem dJ4_append_15ec4_5 : decode cJ4_append_15ec4 5 = .ok (.pop, 1) := by decide +kernel
theorem dJ4_append_15ec4_6 : decode cJ4_append_15ec4 6 = .ok (.aload_n 0, 1) := by decide +kernel
theorem dJ4_append_15ec4_7 : decode cJ4_append_15ec4 7 = .ok (.areturn, 1) := by decide +kernel
theorem dJ4_append_cf468_0 : decode cJ4_append_cf468 0 = .ok (.aload_n 0, 1) := by decide +kernel
theorem dJ4_append_cf468_1 : decode cJ4_append_cf468 1 = .ok (.iload_n 1, 1) := by decide +kernel
theorem dJ4_append_cf468_2 : decode cJ4_append_cf468 2 = .ok (.invokespecial 50, 3) := by decide +kernel
theorem dJ4_append_cf468_5 : decode cJ4_append_cf468 5 = .ok (.pop, 1) := by decide +kernel
theorem dJ4_append_cf468_6 : decode cJ4_append_cf468 6 = .ok (.aload_n 0, 1) := by decide +kernel
theorem dJ4_append_cf468_7 : decode cJ4_append_cf468 7 = .ok (.areturn, 1) := by decide +kernel
theorem dJ4_append_bf812_0 : decode cJ4_append_bf812 0 = .ok (.aload_n 0, 1) := by decide +kernel
theorem dJ4_append_bf812_1 : decode cJ4_append_bf812 1 = .ok (.iload_n 1, 1) := by decide +kernel
theorem dJ4_append_bf812_2 : decode cJ4_append_bf812 2 = .ok (.invokespecial 53, 3) := by decide +kernel
theorem dJ4_append_bf812_5 : decode cJ4_append_bf812 5 = .ok (.pop, 1) := by decide +kernel
theorem dJ4_append_bf812_6 : decode cJ4_append_bf812 6 = .ok (.aload_n 0, 1) := by decide +kernel
theorem dJ4_append_bf812_7 : decode cJ4_append_bf812 7 = .ok (.areturn, 1) := by decide +kernel
theorem dJ4_toString_0e30d_0 : decode cJ4_toString_0e30d 0 = .ok (.new 18, 3) := by decide +kernel
theorem dJ4_toString_0e30d_3 : decode cJ4_toString_0e30d 3 = .ok (.dup, 1) := by decide +kernel
theorem dJ4_toString_0e30d_4 : decode cJ4_toString_0e30d 4 = .ok (.aload_n 0, 1) := by decide +kernel
theorem dJ4_toString_0e30d_5 : decode cJ4_toString_0e30d 5 = .ok (.invokespecial 137, 3) := by decide +kernel
theorem dJ4_toString_0e30d_8 : decode cJ4_toString_0e30d 8 = .ok (.areturn, 1) := by decide +kernel
theorem dJ4_length_8abf5_0 : decode cJ4_length_8abf5 0 = .ok (.aload_n 0, 1) := by decide +kernel
theorem dJ4_length_8abf5_1 : decode cJ4_length_8abf5 1 = .ok (.invokespecial 343, 3) := by decide +kernel
theorem dJ4_length_8abf5_4 : decode cJ4_length_8abf5 4 = .ok (.ireturn, 1) := by decide +kernel
theorem dJ1_charAt_3b067_0 : decode cJ1_charAt_3b067 0 = .ok (.iload_n 1, 1) := by decide +kernel
theorem dJ1_charAt_3b067_1 : decode cJ1_charAt_3b067 1 = .ok (.aload_n 0, 1) := by decide +kernel
theorem dJ1_charAt_3b067_2 : decode cJ1_charAt_3b067 2 = .ok (.arraylength, 1) := by decide +kernel
theorem dJ1_charAt_3b067_3 : decode cJ1_charAt_3b067 3 = .ok (.invokestatic 9, 3) := by decide +kernel
theorem dJ1_charAt_3b067_6 : decode cJ1_charAt_3b067 6 = .ok (.aload_n 0, 1) := by decide +kernel
theorem dJ1_charAt_3b067_7 : decode cJ1_charAt_3b067 7 = .ok (.iload_n 1, 1) := by decide +kernel
theorem dJ1_charAt_3b067_8 : decode cJ1_charAt_3b067 8 = .ok (.baload, 1) := by decide +kernel
theorem dJ1_charAt_3b067_9 : decode cJ1_charAt_3b067 9 = .ok (.sipush 255, 3) := by decide +kernel
theorem dJ1_charAt_3b067_12 : decode cJ1_charAt_3b067 12 = .ok (.iand, 1) := by decide +kernel
theorem dJ1_charAt_3b067_13 : decode cJ1_charAt_3b067 13 = .ok (.i2c, 1) := by decide +kernel
theorem dJ1_charAt_3b067_14 : decode cJ1_charAt_3b067 14 = .ok (.ireturn, 1) := by decide +kernel
theorem dJ1_canEncode_fc78d_0 : decode cJ1_canEncode_fc78d 0 = .ok (.iload_n 0, 1) := by decide +kernel
theorem dJ1_canEncode_fc78d_1 : decode cJ1_canEncode_fc78d 1 = .ok (.sipush 255, 3) := by decide +kernel
theorem dJ1_canEncode_fc78d_4 : decode cJ1_canEncode_fc78d 4 = .ok (.if_icmp .gt 7, 3) := by decide +kernel
theorem dJ1_canEncode_fc78d_7 : decode cJ1_canEncode_fc78d 7 = .ok (.iconst 1, 1) := by decide +kernel
theorem dJ1_canEncode_fc78d_8 : decode cJ1_canEncode_fc78d 8 = .ok (.goto 4, 3) := by decide +kernel
theorem dJ1_canEncode_fc78d_11 : decode cJ1_canEncode_fc78d 11 = .ok (.iconst 0, 1) := by decide +kernel
theorem dJ1_canEncode_fc78d_12 : decode cJ1_canEncode_fc78d 12 = .ok (.ireturn, 1) := by decide +kernel
theorem dJ7_copyOf_9075b_0 : decode cJ7_copyOf_9075b 0 = .ok (.iload_n 1, 1) := by decide +kernel
theorem dJ7_copyOf_9075b_1 : decode cJ7_copyOf_9075b 1 = .ok (.aload_n 0, 1) := by decide +kernel
theorem dJ7_copyOf_9075b_2 : decode cJ7_copyOf_9075b 2 = .ok (.arraylength, 1) := by decide +kernel
theorem dJ7_copyOf_9075b_3 : decode cJ7_copyOf_9075b 3 = .ok (.if_icmp .ne 11, 3) := by decide +kernel
theorem dJ7_copyOf_9075b_6 : decode cJ7_copyOf_9075b 6 = .ok (.aload_n 0, 1) := by decide +kernel
theorem dJ7_copyOf_9075b_7 : decode cJ7_copyOf_9075b 7 = .ok (.invokevirtual 310, 3) := by decide +kernel
theorem dJ7_copyOf_9075b_10 : decode cJ7_copyOf_9075b 10 = .ok (.checkcast 311, 3) := by decide +kernel
theorem dJ7_copyOf_9075b_13 : decode cJ7_copyOf_9075b 13 = .ok (.areturn, 1) := by decide +kernel
theorem dJ7_copyOf_9075b_14 : decode cJ7_copyOf_9075b 14 = .ok (.iload_n 1, 1) := by decide +kernel
theorem dJ7_copyOf_9075b_15 : decode cJ7_copyOf_9075b 15 = .ok (.newarray .byte, 2) := by decide +kernel
theorem dJ7_copyOf_9075b_17 : decode cJ7_copyOf_9075b 17 = .ok (.astore_n 2, 1) := by decide +kernel
theorem dJ7_copyOf_9075b_18 : decode cJ7_copyOf_9075b 18 = .ok (.aload_n 0, 1) := by decide +kernel
theorem dJ7_copyOf_9075b_19 : decode cJ7_copyOf_9075b 19 = .ok (.iconst 0, 1) := by decide +kernel
theorem dJ7_copyOf_9075b_20 : decode cJ7_copyOf_9075b 20 = .ok (.aload_n 2, 1) := by decide +kernel
theorem dJ7_copyOf_9075b_21 : decode cJ7_copyOf_9075b 21 = .ok (.iconst 0, 1) := by decide +kernel
theorem dJ7_copyOf_9075b_22 : decode cJ7_copyOf_9075b 22 = .ok (.aload_n 0, 1) := by decide +kernel
theorem dJ7_copyOf_9075b_23 : decode cJ7_copyOf_9075b 23 = .ok (.arraylength, 1) := by decide +kernel
theorem dJ7_copyOf_9075b_24 : decode cJ7_copyOf_9075b 24 = .ok (.iload_n 1, 1) := by decide +kernel
theorem dJ7_copyOf_9075b_25 : decode cJ7_copyOf_9075b 25 = .ok (.invokestatic 304, 3) := by decide +kernel
theorem dJ7_copyOf_9075b_28 : decode cJ7_copyOf_9075b 28 = .ok (.invokestatic 150, 3) := by decide +kernel
theorem dJ7_copyOf_9075b_31 : decode cJ7_copyOf_9075b 31 = .ok (.aload_n 2, 1) := by decide +kernel
theorem dJ7_copyOf_9075b_32 : decode cJ7_copyOf_9075b 32 = .ok (.areturn, 1) := by decide +kernel
theorem dJ7_checkLength_df160_0 : decode cJ7_checkLength_df160 0 = .ok (.iload_n 1, 1) := by decide +kernel
theorem dJ7_checkLength_df160_1 : decode cJ7_checkLength_df160 1 = .ok (.iload_n 0, 1) := by decide +kernel
theorem dJ7_checkLength_df160_2 : decode cJ7_checkLength_df160 2 = .ok (.if_icmp .ge 35, 3) := by decide +kernel
theorem dJ7_checkLength_df160_5 : decode cJ7_checkLength_df160 5 = .ok (.new 43, 3) := by decide +kernel
theorem dJ7_checkLength_df160_8 : decode cJ7_checkLength_df160 8 = .ok (.dup, 1) := by decide +kernel
theorem dJ7_checkLength_df160_9 : decode cJ7_checkLength_df160 9 = .ok (.new 45, 3) := by decide +kernel
theorem dJ7_checkLength_df160_12 : decode cJ7_checkLength_df160 12 = .ok (.dup, 1) := by decide +kernel
theorem dJ7_checkLength_df160_13 : decode cJ7_checkLength_df160 13 = .ok (.invokespecial 47, 3) := by decide +kernel
theorem dJ7_checkLength_df160_16 : decode cJ7_checkLength_df160 16 = .ok (.iload_n 0, 1) := by decide +kernel
theorem dJ7_checkLength_df160_17 : decode cJ7_checkLength_df160 17 = .ok (.invokevirtual 54, 3) := by decide +kernel
theorem dJ7_checkLength_df160_20 : decode cJ7_checkLength_df160 20 = .ok (.ldc_w 337, 3) := by decide +kernel
theorem dJ7_checkLength_df160_23 : decode cJ7_checkLength_df160 23 = .ok (.invokevirtual 50, 3) := by decide +kernel
theorem dJ7_checkLength_df160_26 : decode cJ7_checkLength_df160 26 = .ok (.iload_n 1, 1) := by decide +kernel
theorem dJ7_checkLength_df160_27 : decode cJ7_checkLength_df160 27 = .ok (.invokevirtual 54, 3) := by decide +kernel
theorem dJ7_checkLength_df160_30 : decode cJ7_checkLength_df160 30 = .ok (.invokevirtual 61, 3) := by decide +kernel
theorem dJ7_checkLength_df160_33 : decode cJ7_checkLength_df160 33 = .ok (.invokespecial 65, 3) := by decide +kernel
theorem dJ7_checkLength_df160_36 : decode cJ7_checkLength_df160 36 = .ok (.athrow, 1) := by decide +kernel
theorem dJ7_checkLength_df160_37 : decode cJ7_checkLength_df160 37 = .ok (.return_, 1) := by decide +kernel
theorem dJ7_copyOfRange_39247_0 : decode cJ7_copyOfRange_39247 0 = .ok (.iload_n 1, 1) := by decide +kernel
theorem dJ7_copyOfRange_39247_1 : decode cJ7_copyOfRange_39247 1 = .ok (.ifCond .ne 9, 3) := by decide +kernel
theorem dJ7_copyOfRange_39247_4 : decode cJ7_copyOfRange_39247 4 = .ok (.iload_n 2, 1) := by decide +kernel
theorem dJ7_copyOfRange_39247_5 : decode cJ7_copyOfRange_39247 5 = .ok (.aload_n 0, 1) := by decide +kernel
theorem dJ7_copyOfRange_39247_6 : decode cJ7_copyOfRange_39247 6 = .ok (.arraylength, 1) := by decide +kernel
theorem dJ7_copyOfRange_39247_7 : decode cJ7_copyOfRange_39247 7 = .ok (.if_icmp .eq 10, 3) := by decide +kernel
theorem dJ7_copyOfRange_39247_10 : decode cJ7_copyOfRange_39247 10 = .ok (.aload_n 0, 1) := by decide +kernel
theorem dJ7_copyOfRange_39247_11 : decode cJ7_copyOfRange_39247 11 = .ok (.iload_n 1, 1) := by decide +kernel
theorem dJ7_copyOfRange_39247_12 : decode cJ7_copyOfRange_39247 12 = .ok (.iload_n 2, 1) := by decide +kernel
theorem dJ7_copyOfRange_39247_13 : decode cJ7_copyOfRange_39247 13 = .ok (.invokestatic 339, 3) := by decide +kernel
theorem dJ7_copyOfRange_39247_16 : decode cJ7_copyOfRange_39247 16 = .ok (.areturn, 1) := by decide +kernel
theorem dJ7_copyOfRange_39247_17 : decode cJ7_copyOfRange_39247 17 = .ok (.aload_n 0, 1) := by decide +kernel
theorem dJ7_copyOfRange_39247_18 : decode cJ7_copyOfRange_39247 18 = .ok (.invokevirtual 310, 3) := by decide +kernel
theorem dJ7_copyOfRange_39247_21 : decode cJ7_copyOfRange_39247 21 = .ok (.checkcast 311, 3) := by decide +kernel
theorem dJ7_copyOfRange_39247_24 : decode cJ7_copyOfRange_39247 24 = .ok (.areturn, 1) := by decide +kernel
theorem dJ7_copyOfRangeByte_39247_0 : decode cJ7_copyOfRangeByte_39247 0 = .ok (.iload_n 1, 1) := by decide +kernel
theorem dJ7_copyOfRangeByte_39247_1 : decode cJ7_copyOfRangeByte_39247 1 = .ok (.iload_n 2, 1) := by decide +kernel
theorem dJ7_copyOfRangeByte_39247_2 : decode cJ7_copyOfRangeByte_39247 2 = .ok (.invokestatic 343, 3) := by decide +kernel
theorem dJ7_copyOfRangeByte_39247_5 : decode cJ7_copyOfRangeByte_39247 5 = .ok (.iload_n 2, 1) := by decide +kernel
theorem dJ7_copyOfRangeByte_39247_6 : decode cJ7_copyOfRangeByte_39247 6 = .ok (.iload_n 1, 1) := by decide +kernel
theorem dJ7_copyOfRangeByte_39247_7 : decode cJ7_copyOfRangeByte_39247 7 = .ok (.isub, 1) := by decide +kernel
theorem dJ7_copyOfRangeByte_39247_8 : decode cJ7_copyOfRangeByte_39247 8 = .ok (.istore_n 3, 1) := by decide +kernel
theorem dJ7_copyOfRangeByte_39247_9 : decode cJ7_copyOfRangeByte_39247 9 = .ok (.iload_n 3, 1) := by decide +kernel
theorem dJ7_copyOfRangeByte_39247_10 : decode cJ7_copyOfRangeByte_39247 10 = .ok (.newarray .byte, 2) := by decide +kernel
theorem dJ7_copyOfRangeByte_39247_12 : decode cJ7_copyOfRangeByte_39247 12 = .ok (.astore 4, 2) := by decide +kernel
theorem dJ7_copyOfRangeByte_39247_14 : decode cJ7_copyOfRangeByte_39247 14 = .ok (.aload_n 0, 1) := by decide +kernel
theorem dJ7_copyOfRangeByte_39247_15 : decode cJ7_copyOfRangeByte_39247 15 = .ok (.iload_n 1, 1) := by decide +kernel
theorem dJ7_copyOfRangeByte_39247_16 : decode cJ7_copyOfRangeByte_39247 16 = .ok (.aload 4, 2) := by decide +kernel
theorem dJ7_copyOfRangeByte_39247_18 : decode cJ7_copyOfRangeByte_39247 18 = .ok (.iconst 0, 1) := by decide +kernel
theorem dJ7_copyOfRangeByte_39247_19 : decode cJ7_copyOfRangeByte_39247 19 = .ok (.aload_n 0, 1) := by decide +kernel
theorem dJ7_copyOfRangeByte_39247_20 : decode cJ7_copyOfRangeByte_39247 20 = .ok (.arraylength, 1) := by decide +kernel
theorem dJ7_copyOfRangeByte_39247_21 : decode cJ7_copyOfRangeByte_39247 21 = .ok (.iload_n 1, 1) := by decide +kernel
theorem dJ7_copyOfRangeByte_39247_22 : decode cJ7_copyOfRangeByte_39247 22 = .ok (.isub, 1) := by decide +kernel
theorem dJ7_copyOfRangeByte_39247_23 : decode cJ7_copyOfRangeByte_39247 23 = .ok (.iload_n 3, 1) := by decide +kernel
theorem dJ7_copyOfRangeByte_39247_24 : decode cJ7_copyOfRangeByte_39247 24 = .ok (.invokestatic 304, 3) := by decide +kernel
theorem dJ7_copyOfRangeByte_39247_27 : decode cJ7_copyOfRangeByte_39247 27 = .ok (.invokestatic 150, 3) := by decide +kernel
theorem dJ7_copyOfRangeByte_39247_30 : decode cJ7_copyOfRangeByte_39247 30 = .ok (.aload 4, 2) := by decide +kernel
theorem dJ7_copyOfRangeByte_39247_32 : decode cJ7_copyOfRangeByte_39247 32 = .ok (.areturn, 1) := by decide +kernel
theorem dJ8_newLength_cabcc_0 : decode cJ8_newLength_cabcc 0 = .ok (.iload_n 0, 1) := by decide +kernel
theorem dJ8_newLength_cabcc_1 : decode cJ8_newLength_cabcc 1 = .ok (.iload_n 1, 1) := by decide +kernel
theorem dJ8_newLength_cabcc_2 : decode cJ8_newLength_cabcc 2 = .ok (.iload_n 2, 1) := by decide +kernel
theorem dJ8_newLength_cabcc_3 : decode cJ8_newLength_cabcc 3 = .ok (.invokestatic 194, 3) := by decide +kernel
theorem dJ8_newLength_cabcc_6 : decode cJ8_newLength_cabcc 6 = .ok (.iadd, 1) := by decide +kernel
theorem dJ8_newLength_cabcc_7 : decode cJ8_newLength_cabcc 7 = .ok (.istore_n 3, 1) := by decide +kernel
theorem dJ8_newLength_cabcc_8 : decode cJ8_newLength_cabcc 8 = .ok (.iconst 0, 1) := by decide +kernel
theorem dJ8_newLength_cabcc_9 : decode cJ8_newLength_cabcc 9 = .ok (.iload_n 3, 1) := by decide +kernel
theorem dJ8_newLength_cabcc_10 : decode cJ8_newLength_cabcc 10 = .ok (.if_icmp .ge 11, 3) := by decide +kernel
theorem dJ8_newLength_cabcc_13 : decode cJ8_newLength_cabcc 13 = .ok (.iload_n 3, 1) := by decide +kernel
theorem dJ8_newLength_cabcc_14 : decode cJ8_newLength_cabcc 14 = .ok (.ldc 200, 2) := by decide +kernel
theorem dJ8_newLength_cabcc_16 : decode cJ8_newLength_cabcc 16 = .ok (.if_icmp .gt 5, 3) := by decide +kernel
theorem dJ8_newLength_cabcc_19 : decode cJ8_newLength_cabcc 19 = .ok (.iload_n 3, 1) := by decide +kernel
theorem dJ8_newLength_cabcc_20 : decode cJ8_newLength_cabcc 20 = .ok (.ireturn, 1) := by decide +kernel
theorem dJ8_newLength_cabcc_21 : decode cJ8_newLength_cabcc 21 = .ok (.iload_n 0, 1) := by decide +kernel
theorem dJ8_newLength_cabcc_22 : decode cJ8_newLength_cabcc 22 = .ok (.iload_n 1, 1) := by decide +kernel
theorem dJ8_newLength_cabcc_23 : decode cJ8_newLength_cabcc 23 = .ok (.invokestatic 201, 3) := by decide +kernel
theorem dJ8_newLength_cabcc_26 : decode cJ8_newLength_cabcc 26 = .ok (.ireturn, 1) := by decide +kernel
theorem dJ3_checkIndex_8e157_0 : decode cJ3_checkIndex_8e157 0 = .ok (.iload_n 0, 1) := by decide +kernel
theorem dJ3_checkIndex_8e157_1 : decode cJ3_checkIndex_8e157 1 = .ok (.ifCond .lt 8, 3) := by decide +kernel
theorem dJ3_checkIndex_8e157_4 : decode cJ3_checkIndex_8e157 4 = .ok (.iload_n 0, 1) := by decide +kernel
theorem dJ3_checkIndex_8e157_5 : decode cJ3_checkIndex_8e157 5 = .ok (.iload_n 1, 1) := by decide +kernel
theorem dJ3_checkIndex_8e157_6 : decode cJ3_checkIndex_8e157 6 = .ok (.if_icmp .lt 10, 3) := by decide +kernel
theorem dJ3_checkIndex_8e157_9 : decode cJ3_checkIndex_8e157 9 = .ok (.aload_n 2, 1) := by decide +kernel
theorem dJ3_checkIndex_8e157_10 : decode cJ3_checkIndex_8e157 10 = .ok (.iload_n 0, 1) := by decide +kernel
theorem dJ3_checkIndex_8e157_11 : decode cJ3_checkIndex_8e157 11 = .ok (.iload_n 1, 1) := by decide +kernel
theorem dJ3_checkIndex_8e157_12 : decode cJ3_checkIndex_8e157 12 = .ok (.invokestatic 95, 3) := by decide +kernel
theorem dJ3_checkIndex_8e157_15 : decode cJ3_checkIndex_8e157 15 = .ok (.athrow, 1) := by decide +kernel
theorem dJ3_checkIndex_8e157_16 : decode cJ3_checkIndex_8e157 16 = .ok (.iload_n 0, 1) := by decide +kernel
theorem dJ3_checkIndex_8e157_17 : decode cJ3_checkIndex_8e157 17 = .ok (.ireturn, 1) := by decide +kernel
theorem dL_cell_0 : decode cL_cell 0 = .ok (.ldc 7, 2) := by decide +kernel
theorem dL_cell_2 : decode cL_cell 2 = .ok (.iload_n 1, 1) := by decide +kernel
theorem dL_cell_3 : decode cL_cell 3 = .ok (.aload_n 0, 1) := by decide +kernel
theorem dL_cell_4 : decode cL_cell 4 = .ok (.arraylength, 1) := by decide +kernel
theorem dL_cell_5 : decode cL_cell 5 = .ok (.if_icmp .ge 9, 3) := by decide +kernel
theorem dL_cell_8 : decode cL_cell 8 = .ok (.aload_n 0, 1) := by decide +kernel
theorem dL_cell_9 : decode cL_cell 9 = .ok (.iload_n 1, 1) := by decide +kernel
theorem dL_cell_10 : decode cL_cell 10 = .ok (.iaload, 1) := by decide +kernel
theorem dL_cell_11 : decode cL_cell 11 = .ok (.goto 4, 3) := by decide +kernel
theorem dL_cell_14 : decode cL_cell 14 = .ok (.iconst 0, 1) := by decide +kernel
theorem dL_cell_15 : decode cL_cell 15 = .ok (.sipush 1009, 3) := by decide +kernel
theorem dL_cell_18 : decode cL_cell 18 = .ok (.iload_n 1, 1) := by decide +kernel
theorem dL_cell_19 : decode cL_cell 19 = .ok (.imul, 1) := by decide +kernel
theorem dL_cell_20 : decode cL_cell 20 = .ok (.iadd, 1) := by decide +kernel
theorem dL_cell_21 : decode cL_cell 21 = .ok (.imul, 1) := by decide +kernel
theorem dL_cell_22 : decode cL_cell 22 = .ok (.sipush 12345, 3) := by decide +kernel
theorem dL_cell_25 : decode cL_cell 25 = .ok (.iadd, 1) := by decide +kernel
theorem dL_cell_26 : decode cL_cell 26 = .ok (.istore_n 2, 1) := by decide +kernel
theorem dL_cell_27 : decode cL_cell 27 = .ok (.iload_n 2, 1) := by decide +kernel
theorem dL_cell_28 : decode cL_cell 28 = .ok (.iload_n 2, 1) := by decide +kernel
theorem dL_cell_29 : decode cL_cell 29 = .ok (.bipush 13, 2) := by decide +kernel
theorem dL_cell_31 : decode cL_cell 31 = .ok (.iushr, 1) := by decide +kernel
theorem dL_cell_32 : decode cL_cell 32 = .ok (.ixor, 1) := by decide +kernel
theorem dL_cell_33 : decode cL_cell 33 = .ok (.ldc 8, 2) := by decide +kernel
theorem dL_cell_35 : decode cL_cell 35 = .ok (.imul, 1) := by decide +kernel
theorem dL_cell_36 : decode cL_cell 36 = .ok (.istore_n 2, 1) := by decide +kernel
theorem dL_cell_37 : decode cL_cell 37 = .ok (.iload_n 2, 1) := by decide +kernel
theorem dL_cell_38 : decode cL_cell 38 = .ok (.iload_n 2, 1) := by decide +kernel
theorem dL_cell_39 : decode cL_cell 39 = .ok (.bipush 16, 2) := by decide +kernel
theorem dL_cell_41 : decode cL_cell 41 = .ok (.iushr, 1) := by decide +kernel
theorem dL_cell_42 : decode cL_cell 42 = .ok (.ixor, 1) := by decide +kernel
theorem dL_cell_43 : decode cL_cell 43 = .ok (.ireturn, 1) := by decide +kernel
theorem dL_types_0 : decode cL_types 0 = .ok (.iconst 1, 1) := by decide +kernel
theorem dL_types_1 : decode cL_types 1 = .ok (.istore_n 2, 1) := by decide +kernel
theorem dL_types_2 : decode cL_types 2 = .ok (.iconst 0, 1) := by decide +kernel
theorem dL_types_3 : decode cL_types 3 = .ok (.istore_n 3, 1) := by decide +kernel
theorem dL_types_4 : decode cL_types 4 = .ok (.iload_n 3, 1) := by decide +kernel
theorem dL_types_5 : decode cL_types 5 = .ok (.aload_n 1, 1) := by decide +kernel
theorem dL_types_6 : decode cL_types 6 = .ok (.invokevirtual 9, 3) := by decide +kernel
theorem dL_types_9 : decode cL_types 9 = .ok (.if_icmp .ge 32, 3) := by decide +kernel
theorem dL_types_12 : decode cL_types 12 = .ok (.iload_n 2, 1) := by decide +kernel
theorem dL_types_13 : decode cL_types 13 = .ok (.aload_n 0, 1) := by decide +kernel
theorem dL_types_14 : decode cL_types 14 = .ok (.aload_n 1, 1) := by decide +kernel
theorem dL_types_15 : decode cL_types 15 = .ok (.iload_n 3, 1) := by decide +kernel
theorem dL_types_16 : decode cL_types 16 = .ok (.invokevirtual 15, 3) := by decide +kernel
theorem dL_types_19 : decode cL_types 19 = .ok (.invokevirtual 19, 3) := by decide +kernel
theorem dL_types_22 : decode cL_types 22 = .ok (.iload_n 3, 1) := by decide +kernel
theorem dL_types_23 : decode cL_types 23 = .ok (.iconst 1, 1) := by decide +kernel
theorem dL_types_24 : decode cL_types 24 = .ok (.iadd, 1) := by decide +kernel
theorem dL_types_25 : decode cL_types 25 = .ok (.if_icmp .ne 7, 3) := by decide +kernel
theorem dL_types_28 : decode cL_types 28 = .ok (.iconst 1, 1) := by decide +kernel
theorem dL_types_29 : decode cL_types 29 = .ok (.goto 4, 3) := by decide +kernel
theorem dL_types_32 : decode cL_types 32 = .ok (.iconst 0, 1) := by decide +kernel
theorem dL_types_33 : decode cL_types 33 = .ok (.iand, 1) := by decide +kernel
theorem dL_types_34 : decode cL_types 34 = .ok (.istore_n 2, 1) := by decide +kernel
theorem dL_types_35 : decode cL_types 35 = .ok (.iinc 3 1, 3) := by decide +kernel
theorem dL_types_38 : decode cL_types 38 = .ok (.goto (-34), 3) := by decide +kernel
theorem dL_types_41 : decode cL_types 41 = .ok (.iload_n 2, 1) := by decide +kernel
theorem dL_types_42 : decode cL_types 42 = .ok (.ireturn, 1) := by decide +kernel
theorem dL_name_0 : decode cL_name 0 = .ok (.new 25, 3) := by decide +kernel
theorem dL_name_3 : decode cL_name 3 = .ok (.dup, 1) := by decide +kernel
theorem dL_name_4 : decode cL_name 4 = .ok (.invokespecial 27, 3) := by decide +kernel
theorem dL_name_7 : decode cL_name 7 = .ok (.ldc 28, 2) := by decide +kernel
theorem dL_name_9 : decode cL_name 9 = .ok (.invokevirtual 30, 3) := by decide +kernel
theorem dL_name_12 : decode cL_name 12 = .ok (.bipush 97, 2) := by decide +kernel
theorem dL_name_14 : decode cL_name 14 = .ok (.iload_n 0, 1) := by decide +kernel
theorem dL_name_15 : decode cL_name 15 = .ok (.bipush 7, 2) := by decide +kernel
theorem dL_name_17 : decode cL_name 17 = .ok (.idiv, 1) := by decide +kernel
theorem dL_name_18 : decode cL_name 18 = .ok (.iadd, 1) := by decide +kernel
theorem dL_name_19 : decode cL_name 19 = .ok (.i2c, 1) := by decide +kernel
theorem dL_name_20 : decode cL_name 20 = .ok (.invokevirtual 34, 3) := by decide +kernel
theorem dL_name_23 : decode cL_name 23 = .ok (.bipush 107, 2) := by decide +kernel
theorem dL_name_25 : decode cL_name 25 = .ok (.iload_n 0, 1) := by decide +kernel
theorem dL_name_26 : decode cL_name 26 = .ok (.bipush 7, 2) := by decide +kernel
theorem dL_name_28 : decode cL_name 28 = .ok (.irem, 1) := by decide +kernel
theorem dL_name_29 : decode cL_name 29 = .ok (.iadd, 1) := by decide +kernel
theorem dL_name_30 : decode cL_name 30 = .ok (.i2c, 1) := by decide +kernel
theorem dL_name_31 : decode cL_name 31 = .ok (.invokevirtual 34, 3) := by decide +kernel
theorem dL_name_34 : decode cL_name 34 = .ok (.invokevirtual 37, 3) := by decide +kernel
theorem dL_name_37 : decode cL_name 37 = .ok (.areturn, 1) := by decide +kernel
theorem dL_sight_0 : decode cL_sight 0 = .ok (.lconst 0, 1) := by decide +kernel
theorem dL_sight_1 : decode cL_sight 1 = .ok (.lstore_n 1, 1) := by decide +kernel
theorem dL_sight_2 : decode cL_sight 2 = .ok (.iconst 0, 1) := by decide +kernel
theorem dL_sight_3 : decode cL_sight 3 = .ok (.istore_n 3, 1) := by decide +kernel
theorem dL_sight_4 : decode cL_sight 4 = .ok (.iload_n 3, 1) := by decide +kernel
theorem dL_sight_5 : decode cL_sight 5 = .ok (.bipush 8, 2) := by decide +kernel
theorem dL_sight_7 : decode cL_sight 7 = .ok (.if_icmp .ge 34, 3) := by decide +kernel
theorem dL_sight_10 : decode cL_sight 10 = .ok (.ldc2_w 41, 3) := by decide +kernel
theorem dL_sight_13 : decode cL_sight 13 = .ok (.lload_n 1, 1) := by decide +kernel
theorem dL_sight_14 : decode cL_sight 14 = .ok (.lmul, 1) := by decide +kernel
theorem dL_sight_15 : decode cL_sight 15 = .ok (.aload_n 0, 1) := by decide +kernel
theorem dL_sight_16 : decode cL_sight 16 = .ok (.iload_n 3, 1) := by decide +kernel
theorem dL_sight_17 : decode cL_sight 17 = .ok (.invokevirtual 43, 3) := by decide +kernel
theorem dL_sight_20 : decode cL_sight 20 = .ok (.i2l, 1) := by decide +kernel
theorem dL_sight_21 : decode cL_sight 21 = .ok (.ladd, 1) := by decide +kernel
theorem dL_sight_22 : decode cL_sight 22 = .ok (.lstore_n 1, 1) := by decide +kernel
theorem dL_sight_23 : decode cL_sight 23 = .ok (.ldc2_w 41, 3) := by decide +kernel
theorem dL_sight_26 : decode cL_sight 26 = .ok (.lload_n 1, 1) := by decide +kernel
theorem dL_sight_27 : decode cL_sight 27 = .ok (.lmul, 1) := by decide +kernel
theorem dL_sight_28 : decode cL_sight 28 = .ok (.aload_n 0, 1) := by decide +kernel
theorem dL_sight_29 : decode cL_sight 29 = .ok (.iload_n 3, 1) := by decide +kernel
theorem dL_sight_30 : decode cL_sight 30 = .ok (.invokevirtual 46, 3) := by decide +kernel
theorem dL_sight_33 : decode cL_sight 33 = .ok (.ladd, 1) := by decide +kernel
theorem dL_sight_34 : decode cL_sight 34 = .ok (.lstore_n 1, 1) := by decide +kernel
theorem dL_sight_35 : decode cL_sight 35 = .ok (.iinc 3 1, 3) := by decide +kernel
theorem dL_sight_38 : decode cL_sight 38 = .ok (.goto (-34), 3) := by decide +kernel
theorem dL_sight_41 : decode cL_sight 41 = .ok (.iconst 0, 1) := by decide +kernel
theorem dL_sight_42 : decode cL_sight 42 = .ok (.istore_n 3, 1) := by decide +kernel
theorem dL_sight_43 : decode cL_sight 43 = .ok (.iload_n 3, 1) := by decide +kernel
theorem dL_sight_44 : decode cL_sight 44 = .ok (.aload_n 0, 1) := by decide +kernel
theorem dL_sight_45 : decode cL_sight 45 = .ok (.bipush 7, 2) := by decide +kernel
theorem dL_sight_47 : decode cL_sight 47 = .ok (.invokevirtual 43, 3) := by decide +kernel
theorem dL_sight_50 : decode cL_sight 50 = .ok (.if_icmp .ge 22, 3) := by decide +kernel
theorem dL_sight_53 : decode cL_sight 53 = .ok (.ldc2_w 41, 3) := by decide +kernel
theorem dL_sight_56 : decode cL_sight 56 = .ok (.lload_n 1, 1) := by decide +kernel
theorem dL_sight_57 : decode cL_sight 57 = .ok (.lmul, 1) := by decide +kernel
theorem dL_sight_58 : decode cL_sight 58 = .ok (.aload_n 0, 1) := by decide +kernel
theorem dL_sight_59 : decode cL_sight 59 = .ok (.iload_n 3, 1) := by decide +kernel
theorem dL_sight_60 : decode cL_sight 60 = .ok (.invokevirtual 50, 3) := by decide +kernel
theorem dL_sight_63 : decode cL_sight 63 = .ok (.i2l, 1) := by decide +kernel
theorem dL_sight_64 : decode cL_sight 64 = .ok (.ladd, 1) := by decide +kernel
theorem dL_sight_65 : decode cL_sight 65 = .ok (.lstore_n 1, 1) := by decide +kernel
theorem dL_sight_66 : decode cL_sight 66 = .ok (.iinc 3 1, 3) := by decide +kernel
theorem dL_sight_69 : decode cL_sight 69 = .ok (.goto (-26), 3) := by decide +kernel
theorem dL_sight_72 : decode cL_sight 72 = .ok (.iconst 0, 1) := by decide +kernel
theorem dL_sight_73 : decode cL_sight 73 = .ok (.istore_n 3, 1) := by decide +kernel
theorem dL_sight_74 : decode cL_sight 74 = .ok (.iload_n 3, 1) := by decide +kernel
theorem dL_sight_75 : decode cL_sight 75 = .ok (.aload_n 0, 1) := by decide +kernel
theorem dL_sight_76 : decode cL_sight 76 = .ok (.iconst 2, 1) := by decide +kernel
theorem dL_sight_77 : decode cL_sight 77 = .ok (.invokevirtual 43, 3) := by decide +kernel
theorem dL_sight_80 : decode cL_sight 80 = .ok (.if_icmp .ge 37, 3) := by decide +kernel
theorem dL_sight_83 : decode cL_sight 83 = .ok (.ldc2_w 41, 3) := by decide +kernel
theorem dL_sight_86 : decode cL_sight 86 = .ok (.lload_n 1, 1) := by decide +kernel
theorem dL_sight_87 : decode cL_sight 87 = .ok (.lmul, 1) := by decide +kernel
theorem dL_sight_88 : decode cL_sight 88 = .ok (.aload_n 0, 1) := by decide +kernel
theorem dL_sight_89 : decode cL_sight 89 = .ok (.iload_n 3, 1) := by decide +kernel
theorem dL_sight_90 : decode cL_sight 90 = .ok (.iconst 0, 1) := by decide +kernel
theorem dL_sight_91 : decode cL_sight 91 = .ok (.invokevirtual 53, 3) := by decide +kernel
theorem dL_sight_94 : decode cL_sight 94 = .ok (.i2l, 1) := by decide +kernel
theorem dL_sight_95 : decode cL_sight 95 = .ok (.ladd, 1) := by decide +kernel
theorem dL_sight_96 : decode cL_sight 96 = .ok (.lstore_n 1, 1) := by decide +kernel
theorem dL_sight_97 : decode cL_sight 97 = .ok (.ldc2_w 41, 3) := by decide +kernel
theorem dL_sight_100 : decode cL_sight 100 = .ok (.lload_n 1, 1) := by decide +kernel
theorem dL_sight_101 : decode cL_sight 101 = .ok (.lmul, 1) := by decide +kernel
theorem dL_sight_102 : decode cL_sight 102 = .ok (.aload_n 0, 1) := by decide +kernel
theorem dL_sight_103 : decode cL_sight 103 = .ok (.iload_n 3, 1) := by decide +kernel
theorem dL_sight_104 : decode cL_sight 104 = .ok (.iconst 1, 1) := by decide +kernel
theorem dL_sight_105 : decode cL_sight 105 = .ok (.invokevirtual 53, 3) := by decide +kernel
theorem dL_sight_108 : decode cL_sight 108 = .ok (.i2l, 1) := by decide +kernel
theorem dL_sight_109 : decode cL_sight 109 = .ok (.ladd, 1) := by decide +kernel
theorem dL_sight_110 : decode cL_sight 110 = .ok (.lstore_n 1, 1) := by decide +kernel
theorem dL_sight_111 : decode cL_sight 111 = .ok (.iinc 3 1, 3) := by decide +kernel
theorem dL_sight_114 : decode cL_sight 114 = .ok (.goto (-40), 3) := by decide +kernel
theorem dL_sight_117 : decode cL_sight 117 = .ok (.iconst 0, 1) := by decide +kernel
theorem dL_sight_118 : decode cL_sight 118 = .ok (.istore_n 3, 1) := by decide +kernel
theorem dL_sight_119 : decode cL_sight 119 = .ok (.iload_n 3, 1) := by decide +kernel
theorem dL_sight_120 : decode cL_sight 120 = .ok (.aload_n 0, 1) := by decide +kernel
theorem dL_sight_121 : decode cL_sight 121 = .ok (.iconst 0, 1) := by decide +kernel
theorem dL_sight_122 : decode cL_sight 122 = .ok (.invokevirtual 43, 3) := by decide +kernel
theorem dL_sight_125 : decode cL_sight 125 = .ok (.if_icmp .ge 37, 3) := by decide +kernel
theorem dL_sight_128 : decode cL_sight 128 = .ok (.ldc2_w 41, 3) := by decide +kernel
theorem dL_sight_131 : decode cL_sight 131 = .ok (.lload_n 1, 1) := by decide +kernel
theorem dL_sight_132 : decode cL_sight 132 = .ok (.lmul, 1) := by decide +kernel
theorem dL_sight_133 : decode cL_sight 133 = .ok (.aload_n 0, 1) := by decide +kernel
theorem dL_sight_134 : decode cL_sight 134 = .ok (.iload_n 3, 1) := by decide +kernel
theorem dL_sight_135 : decode cL_sight 135 = .ok (.iconst 0, 1) := by decide +kernel
theorem dL_sight_136 : decode cL_sight 136 = .ok (.invokevirtual 57, 3) := by decide +kernel
theorem dL_sight_139 : decode cL_sight 139 = .ok (.i2l, 1) := by decide +kernel
theorem dL_sight_140 : decode cL_sight 140 = .ok (.ladd, 1) := by decide +kernel
theorem dL_sight_141 : decode cL_sight 141 = .ok (.lstore_n 1, 1) := by decide +kernel
theorem dL_sight_142 : decode cL_sight 142 = .ok (.ldc2_w 41, 3) := by decide +kernel
theorem dL_sight_145 : decode cL_sight 145 = .ok (.lload_n 1, 1) := by decide +kernel
theorem dL_sight_146 : decode cL_sight 146 = .ok (.lmul, 1) := by decide +kernel
theorem dL_sight_147 : decode cL_sight 147 = .ok (.aload_n 0, 1) := by decide +kernel
theorem dL_sight_148 : decode cL_sight 148 = .ok (.iload_n 3, 1) := by decide +kernel
theorem dL_sight_149 : decode cL_sight 149 = .ok (.iconst 2, 1) := by decide +kernel
theorem dL_sight_150 : decode cL_sight 150 = .ok (.invokevirtual 57, 3) := by decide +kernel
theorem dL_sight_153 : decode cL_sight 153 = .ok (.i2l, 1) := by decide +kernel
theorem dL_sight_154 : decode cL_sight 154 = .ok (.ladd, 1) := by decide +kernel
theorem dL_sight_155 : decode cL_sight 155 = .ok (.lstore_n 1, 1) := by decide +kernel
theorem dL_sight_156 : decode cL_sight 156 = .ok (.iinc 3 1, 3) := by decide +kernel
theorem dL_sight_159 : decode cL_sight 159 = .ok (.goto (-40), 3) := by decide +kernel
theorem dL_sight_162 : decode cL_sight 162 = .ok (.lload_n 1, 1) := by decide +kernel
theorem dL_sight_163 : decode cL_sight 163 = .ok (.lreturn, 1) := by decide +kernel
theorem dL_text_0 : decode cL_text 0 = .ok (.iload_n 0, 1) := by decide +kernel
theorem dL_text_1 : decode cL_text 1 = .ok (.bipush 7, 2) := by decide +kernel
theorem dL_text_3 : decode cL_text 3 = .ok (.iand, 1) := by decide +kernel
theorem dL_text_4 : decode cL_text 4 = .ok (.tableswitch 204 0 6 #[44, 47, 74, 102, 144, 177, 180], 44) := by decide +kernel
theorem dL_text_48 : decode cL_text 48 = .ok (.ldc 60, 2) := by decide +kernel
theorem dL_text_50 : decode cL_text 50 = .ok (.areturn, 1) := by decide +kernel
theorem dL_text_51 : decode cL_text 51 = .ok (.new 25, 3) := by decide +kernel
theorem dL_text_54 : decode cL_text 54 = .ok (.dup, 1) := by decide +kernel
theorem dL_text_55 : decode cL_text 55 = .ok (.invokespecial 27, 3) := by decide +kernel
theorem dL_text_58 : decode cL_text 58 = .ok (.ldc 62, 2) := by decide +kernel
theorem dL_text_60 : decode cL_text 60 = .ok (.invokevirtual 30, 3) := by decide +kernel
theorem dL_text_63 : decode cL_text 63 = .ok (.iconst 1, 1) := by decide +kernel
theorem dL_text_64 : decode cL_text 64 = .ok (.iload_n 0, 1) := by decide +kernel
theorem dL_text_65 : decode cL_text 65 = .ok (.iconst 3, 1) := by decide +kernel
theorem dL_text_66 : decode cL_text 66 = .ok (.ishr, 1) := by decide +kernel
theorem dL_text_67 : decode cL_text 67 = .ok (.bipush 31, 2) := by decide +kernel
theorem dL_text_69 : decode cL_text 69 = .ok (.iand, 1) := by decide +kernel
theorem dL_text_70 : decode cL_text 70 = .ok (.iadd, 1) := by decide +kernel
theorem dL_text_71 : decode cL_text 71 = .ok (.invokevirtual 64, 3) := by decide +kernel
theorem dL_text_74 : decode cL_text 74 = .ok (.invokevirtual 37, 3) := by decide +kernel
theorem dL_text_77 : decode cL_text 77 = .ok (.areturn, 1) := by decide +kernel
theorem dL_text_78 : decode cL_text 78 = .ok (.new 25, 3) := by decide +kernel
theorem dL_text_81 : decode cL_text 81 = .ok (.dup, 1) := by decide +kernel
theorem dL_text_82 : decode cL_text 82 = .ok (.invokespecial 27, 3) := by decide +kernel
theorem dL_text_85 : decode cL_text 85 = .ok (.ldc 67, 2) := by decide +kernel
theorem dL_text_87 : decode cL_text 87 = .ok (.invokevirtual 30, 3) := by decide +kernel
theorem dL_text_90 : decode cL_text 90 = .ok (.iload_n 0, 1) := by decide +kernel
theorem dL_text_91 : decode cL_text 91 = .ok (.iconst 3, 1) := by decide +kernel
theorem dL_text_92 : decode cL_text 92 = .ok (.ishr, 1) := by decide +kernel
theorem dL_text_93 : decode cL_text 93 = .ok (.bipush 15, 2) := by decide +kernel
theorem dL_text_95 : decode cL_text 95 = .ok (.iand, 1) := by decide +kernel
theorem dL_text_96 : decode cL_text 96 = .ok (.invokestatic 69, 3) := by decide +kernel
theorem dL_text_99 : decode cL_text 99 = .ok (.invokevirtual 30, 3) := by decide +kernel
theorem dL_text_102 : decode cL_text 102 = .ok (.invokevirtual 37, 3) := by decide +kernel
theorem dL_text_105 : decode cL_text 105 = .ok (.areturn, 1) := by decide +kernel
theorem dL_text_106 : decode cL_text 106 = .ok (.new 25, 3) := by decide +kernel
theorem dL_text_109 : decode cL_text 109 = .ok (.dup, 1) := by decide +kernel
theorem dL_text_110 : decode cL_text 110 = .ok (.invokespecial 27, 3) := by decide +kernel
theorem dL_text_113 : decode cL_text 113 = .ok (.ldc 75, 2) := by decide +kernel
theorem dL_text_115 : decode cL_text 115 = .ok (.invokevirtual 30, 3) := by decide +kernel
theorem dL_text_118 : decode cL_text 118 = .ok (.iload_n 0, 1) := by decide +kernel
theorem dL_text_119 : decode cL_text 119 = .ok (.iconst 3, 1) := by decide +kernel
theorem dL_text_120 : decode cL_text 120 = .ok (.ishr, 1) := by decide +kernel
theorem dL_text_121 : decode cL_text 121 = .ok (.bipush 15, 2) := by decide +kernel
theorem dL_text_123 : decode cL_text 123 = .ok (.iand, 1) := by decide +kernel
theorem dL_text_124 : decode cL_text 124 = .ok (.invokestatic 69, 3) := by decide +kernel
theorem dL_text_127 : decode cL_text 127 = .ok (.invokevirtual 30, 3) := by decide +kernel
theorem dL_text_130 : decode cL_text 130 = .ok (.ldc 77, 2) := by decide +kernel
theorem dL_text_132 : decode cL_text 132 = .ok (.invokevirtual 30, 3) := by decide +kernel
theorem dL_text_135 : decode cL_text 135 = .ok (.iload_n 0, 1) := by decide +kernel
theorem dL_text_136 : decode cL_text 136 = .ok (.bipush 7, 2) := by decide +kernel
theorem dL_text_138 : decode cL_text 138 = .ok (.ishr, 1) := by decide +kernel
theorem dL_text_139 : decode cL_text 139 = .ok (.iconst 3, 1) := by decide +kernel
theorem dL_text_140 : decode cL_text 140 = .ok (.iand, 1) := by decide +kernel
theorem dL_text_141 : decode cL_text 141 = .ok (.invokevirtual 64, 3) := by decide +kernel
theorem dL_text_144 : decode cL_text 144 = .ok (.invokevirtual 37, 3) := by decide +kernel
theorem dL_text_147 : decode cL_text 147 = .ok (.areturn, 1) := by decide +kernel
theorem dL_text_148 : decode cL_text 148 = .ok (.new 25, 3) := by decide +kernel
theorem dL_text_151 : decode cL_text 151 = .ok (.dup, 1) := by decide +kernel
theorem dL_text_152 : decode cL_text 152 = .ok (.invokespecial 27, 3) := by decide +kernel
theorem dL_text_155 : decode cL_text 155 = .ok (.ldc 79, 2) := by decide +kernel
theorem dL_text_157 : decode cL_text 157 = .ok (.invokevirtual 30, 3) := by decide +kernel
theorem dL_text_160 : decode cL_text 160 = .ok (.iload_n 0, 1) := by decide +kernel
theorem dL_text_161 : decode cL_text 161 = .ok (.iconst 3, 1) := by decide +kernel
theorem dL_text_162 : decode cL_text 162 = .ok (.ishr, 1) := by decide +kernel
theorem dL_text_163 : decode cL_text 163 = .ok (.bipush 15, 2) := by decide +kernel
theorem dL_text_165 : decode cL_text 165 = .ok (.iand, 1) := by decide +kernel
theorem dL_text_166 : decode cL_text 166 = .ok (.invokestatic 69, 3) := by decide +kernel
theorem dL_text_169 : decode cL_text 169 = .ok (.invokevirtual 30, 3) := by decide +kernel
theorem dL_text_172 : decode cL_text 172 = .ok (.ldc 81, 2) := by decide +kernel
theorem dL_text_174 : decode cL_text 174 = .ok (.invokevirtual 30, 3) := by decide +kernel
theorem dL_text_177 : decode cL_text 177 = .ok (.invokevirtual 37, 3) := by decide +kernel
theorem dL_text_180 : decode cL_text 180 = .ok (.areturn, 1) := by decide +kernel
theorem dL_text_181 : decode cL_text 181 = .ok (.ldc 83, 2) := by decide +kernel
theorem dL_text_183 : decode cL_text 183 = .ok (.areturn, 1) := by decide +kernel
theorem dL_text_184 : decode cL_text 184 = .ok (.new 25, 3) := by decide +kernel
theorem dL_text_187 : decode cL_text 187 = .ok (.dup, 1) := by decide +kernel
theorem dL_text_188 : decode cL_text 188 = .ok (.invokespecial 27, 3) := by decide +kernel
theorem dL_text_191 : decode cL_text 191 = .ok (.ldc 85, 2) := by decide +kernel
theorem dL_text_193 : decode cL_text 193 = .ok (.invokevirtual 30, 3) := by decide +kernel
theorem dL_text_196 : decode cL_text 196 = .ok (.iload_n 0, 1) := by decide +kernel
theorem dL_text_197 : decode cL_text 197 = .ok (.iconst 3, 1) := by decide +kernel
theorem dL_text_198 : decode cL_text 198 = .ok (.ishr, 1) := by decide +kernel
theorem dL_text_199 : decode cL_text 199 = .ok (.iconst 3, 1) := by decide +kernel
theorem dL_text_200 : decode cL_text 200 = .ok (.iand, 1) := by decide +kernel
theorem dL_text_201 : decode cL_text 201 = .ok (.invokevirtual 64, 3) := by decide +kernel
theorem dL_text_204 : decode cL_text 204 = .ok (.invokevirtual 37, 3) := by decide +kernel
theorem dL_text_207 : decode cL_text 207 = .ok (.areturn, 1) := by decide +kernel
theorem dL_text_208 : decode cL_text 208 = .ok (.ldc 87, 2) := by decide +kernel
theorem dL_text_210 : decode cL_text 210 = .ok (.areturn, 1) := by decide +kernel
theorem dL_law_0 : decode cL_law 0 = .ok (.new 20, 3) := by decide +kernel
theorem dL_law_3 : decode cL_law 3 = .ok (.dup, 1) := by decide +kernel
theorem dL_law_4 : decode cL_law 4 = .ok (.invokespecial 89, 3) := by decide +kernel
theorem dL_law_7 : decode cL_law 7 = .ok (.astore_n 1, 1) := by decide +kernel
theorem dL_law_8 : decode cL_law 8 = .ok (.iconst 1, 1) := by decide +kernel
theorem dL_law_9 : decode cL_law 9 = .ok (.istore_n 2, 1) := by decide +kernel
theorem dL_law_10 : decode cL_law 10 = .ok (.iconst 0, 1) := by decide +kernel
theorem dL_law_11 : decode cL_law 11 = .ok (.istore_n 3, 1) := by decide +kernel
theorem dL_law_12 : decode cL_law 12 = .ok (.iload_n 3, 1) := by decide +kernel
theorem dL_law_13 : decode cL_law 13 = .ok (.bipush 40, 2) := by decide +kernel
theorem dL_law_15 : decode cL_law 15 = .ok (.if_icmp .ge 1330, 3) := by decide +kernel
theorem dL_law_18 : decode cL_law 18 = .ok (.aload_n 0, 1) := by decide +kernel
theorem dL_law_19 : decode cL_law 19 = .ok (.iload_n 3, 1) := by decide +kernel
theorem dL_law_20 : decode cL_law 20 = .ok (.invokestatic 90, 3) := by decide +kernel
theorem dL_law_23 : decode cL_law 23 = .ok (.istore 4, 2) := by decide +kernel
theorem dL_law_25 : decode cL_law 25 = .ok (.iload 4, 2) := by decide +kernel
theorem dL_law_27 : decode cL_law 27 = .ok (.bipush 15, 2) := by decide +kernel
theorem dL_law_29 : decode cL_law 29 = .ok (.iand, 1) := by decide +kernel
theorem dL_law_30 : decode cL_law 30 = .ok (.istore 5, 2) := by decide +kernel
theorem dL_law_32 : decode cL_law 32 = .ok (.iload 4, 2) := by decide +kernel
theorem dL_law_34 : decode cL_law 34 = .ok (.iconst 4, 1) := by decide +kernel
theorem dL_law_35 : decode cL_law 35 = .ok (.ishr, 1) := by decide +kernel
theorem dL_law_36 : decode cL_law 36 = .ok (.bipush 7, 2) := by decide +kernel
theorem dL_law_38 : decode cL_law 38 = .ok (.iand, 1) := by decide +kernel
theorem dL_law_39 : decode cL_law 39 = .ok (.aload_n 1, 1) := by decide +kernel
theorem dL_law_40 : decode cL_law 40 = .ok (.iconst 0, 1) := by decide +kernel
theorem dL_law_41 : decode cL_law 41 = .ok (.invokevirtual 43, 3) := by decide +kernel
theorem dL_law_44 : decode cL_law 44 = .ok (.irem, 1) := by decide +kernel
theorem dL_law_45 : decode cL_law 45 = .ok (.istore 6, 2) := by decide +kernel
theorem dL_law_47 : decode cL_law 47 = .ok (.aload_n 1, 1) := by decide +kernel
theorem dL_law_48 : decode cL_law 48 = .ok (.iconst 2, 1) := by decide +kernel
theorem dL_law_49 : decode cL_law 49 = .ok (.invokevirtual 43, 3) := by decide +kernel
theorem dL_law_52 : decode cL_law 52 = .ok (.istore 7, 2) := by decide +kernel
theorem dL_law_54 : decode cL_law 54 = .ok (.aload_n 1, 1) := by decide +kernel
theorem dL_law_55 : decode cL_law 55 = .ok (.invokestatic 94, 3) := by decide +kernel
theorem dL_law_58 : decode cL_law 58 = .ok (.lstore 8, 2) := by decide +kernel
theorem dL_law_60 : decode cL_law 60 = .ok (.iconst 0, 1) := by decide +kernel
theorem dL_law_61 : decode cL_law 61 = .ok (.istore 10, 2) := by decide +kernel
theorem dL_law_63 : decode cL_law 63 = .ok (.iload 5, 2) := by decide +kernel
theorem dL_law_65 : decode cL_law 65 = .ok (.iconst 2, 1) := by decide +kernel
theorem dL_law_66 : decode cL_law 66 = .ok (.if_icmp .ge 49, 3) := by decide +kernel
theorem dL_law_69 : decode cL_law 69 = .ok (.aload_n 1, 1) := by decide +kernel
theorem dL_law_70 : decode cL_law 70 = .ok (.iload 6, 2) := by decide +kernel
theorem dL_law_72 : decode cL_law 72 = .ok (.invokevirtual 98, 3) := by decide +kernel
theorem dL_law_75 : decode cL_law 75 = .ok (.istore 10, 2) := by decide +kernel
theorem dL_law_77 : decode cL_law 77 = .ok (.iload_n 2, 1) := by decide +kernel
theorem dL_law_78 : decode cL_law 78 = .ok (.iload 10, 2) := by decide +kernel
theorem dL_law_80 : decode cL_law 80 = .ok (.ifCond .lt 25, 3) := by decide +kernel
theorem dL_law_83 : decode cL_law 83 = .ok (.aload_n 1, 1) := by decide +kernel
theorem dL_law_84 : decode cL_law 84 = .ok (.iload 10, 2) := by decide +kernel
theorem dL_law_86 : decode cL_law 86 = .ok (.iconst 1, 1) := by decide +kernel
theorem dL_law_87 : decode cL_law 87 = .ok (.invokevirtual 57, 3) := by decide +kernel
theorem dL_law_90 : decode cL_law 90 = .ok (.iload 6, 2) := by decide +kernel
theorem dL_law_92 : decode cL_law 92 = .ok (.if_icmp .ne 17, 3) := by decide +kernel
theorem dL_law_95 : decode cL_law 95 = .ok (.aload_n 1, 1) := by decide +kernel
theorem dL_law_96 : decode cL_law 96 = .ok (.iload 10, 2) := by decide +kernel
theorem dL_law_98 : decode cL_law 98 = .ok (.iconst 2, 1) := by decide +kernel
theorem dL_law_99 : decode cL_law 99 = .ok (.invokevirtual 57, 3) := by decide +kernel
theorem dL_law_102 : decode cL_law 102 = .ok (.ifCond .ne 7, 3) := by decide +kernel
theorem dL_law_105 : decode cL_law 105 = .ok (.iconst 1, 1) := by decide +kernel
theorem dL_law_106 : decode cL_law 106 = .ok (.goto 4, 3) := by decide +kernel
theorem dL_law_109 : decode cL_law 109 = .ok (.iconst 0, 1) := by decide +kernel
theorem dL_law_110 : decode cL_law 110 = .ok (.iand, 1) := by decide +kernel
theorem dL_law_111 : decode cL_law 111 = .ok (.istore_n 2, 1) := by decide +kernel
theorem dL_law_112 : decode cL_law 112 = .ok (.goto 1104, 3) := by decide +kernel
theorem dL_law_115 : decode cL_law 115 = .ok (.iload 5, 2) := by decide +kernel
theorem dL_law_117 : decode cL_law 117 = .ok (.bipush 6, 2) := by decide +kernel
theorem dL_law_119 : decode cL_law 119 = .ok (.if_icmp .ge 161, 3) := by decide +kernel
theorem dL_law_122 : decode cL_law 122 = .ok (.new 25, 3) := by decide +kernel
theorem dL_law_125 : decode cL_law 125 = .ok (.dup, 1) := by decide +kernel
theorem dL_law_126 : decode cL_law 126 = .ok (.invokespecial 27, 3) := by decide +kernel
theorem dL_law_129 : decode cL_law 129 = .ok (.iload 4, 2) := by decide +kernel
theorem dL_law_131 : decode cL_law 131 = .ok (.bipush 7, 2) := by decide +kernel
theorem dL_law_133 : decode cL_law 133 = .ok (.ishr, 1) := by decide +kernel
theorem dL_law_134 : decode cL_law 134 = .ok (.bipush 15, 2) := by decide +kernel
theorem dL_law_136 : decode cL_law 136 = .ok (.iand, 1) := by decide +kernel
theorem dL_law_137 : decode cL_law 137 = .ok (.invokestatic 69, 3) := by decide +kernel
theorem dL_law_140 : decode cL_law 140 = .ok (.invokevirtual 30, 3) := by decide +kernel
theorem dL_law_143 : decode cL_law 143 = .ok (.iload 4, 2) := by decide +kernel
theorem dL_law_145 : decode cL_law 145 = .ok (.bipush 11, 2) := by decide +kernel
theorem dL_law_147 : decode cL_law 147 = .ok (.ishr, 1) := by decide +kernel
theorem dL_law_148 : decode cL_law 148 = .ok (.iconst 1, 1) := by decide +kernel
theorem dL_law_149 : decode cL_law 149 = .ok (.iand, 1) := by decide +kernel
theorem dL_law_150 : decode cL_law 150 = .ok (.ifCond .ne 8, 3) := by decide +kernel
theorem dL_law_153 : decode cL_law 153 = .ok (.ldc 28, 2) := by decide +kernel
theorem dL_law_155 : decode cL_law 155 = .ok (.goto 45, 3) := by decide +kernel
theorem dL_law_158 : decode cL_law 158 = .ok (.new 25, 3) := by decide +kernel
theorem dL_law_161 : decode cL_law 161 = .ok (.dup, 1) := by decide +kernel
theorem dL_law_162 : decode cL_law 162 = .ok (.invokespecial 27, 3) := by decide +kernel
theorem dL_law_165 : decode cL_law 165 = .ok (.ldc 101, 2) := by decide +kernel
theorem dL_law_167 : decode cL_law 167 = .ok (.invokevirtual 30, 3) := by decide +kernel
theorem dL_law_170 : decode cL_law 170 = .ok (.iload 4, 2) := by decide +kernel
theorem dL_law_172 : decode cL_law 172 = .ok (.bipush 12, 2) := by decide +kernel
theorem dL_law_174 : decode cL_law 174 = .ok (.ishr, 1) := by decide +kernel
theorem dL_law_175 : decode cL_law 175 = .ok (.invokestatic 103, 3) := by decide +kernel
theorem dL_law_178 : decode cL_law 178 = .ok (.invokevirtual 30, 3) := by decide +kernel
theorem dL_law_181 : decode cL_law 181 = .ok (.ldc 106, 2) := by decide +kernel
theorem dL_law_183 : decode cL_law 183 = .ok (.invokevirtual 30, 3) := by decide +kernel
theorem dL_law_186 : decode cL_law 186 = .ok (.iload 4, 2) := by decide +kernel
theorem dL_law_188 : decode cL_law 188 = .ok (.bipush 22, 2) := by decide +kernel
theorem dL_law_190 : decode cL_law 190 = .ok (.ishr, 1) := by decide +kernel
theorem dL_law_191 : decode cL_law 191 = .ok (.invokestatic 103, 3) := by decide +kernel
theorem dL_law_194 : decode cL_law 194 = .ok (.invokevirtual 30, 3) := by decide +kernel
theorem dL_law_197 : decode cL_law 197 = .ok (.invokevirtual 37, 3) := by decide +kernel
theorem dL_law_200 : decode cL_law 200 = .ok (.invokevirtual 30, 3) := by decide +kernel
theorem dL_law_203 : decode cL_law 203 = .ok (.invokevirtual 37, 3) := by decide +kernel
theorem dL_law_206 : decode cL_law 206 = .ok (.astore 11, 2) := by decide +kernel
theorem dL_law_208 : decode cL_law 208 = .ok (.iload_n 2, 1) := by decide +kernel
theorem dL_law_209 : decode cL_law 209 = .ok (.aload_n 1, 1) := by decide +kernel
theorem dL_law_210 : decode cL_law 210 = .ok (.aload 11, 2) := by decide +kernel
theorem dL_law_212 : decode cL_law 212 = .ok (.invokestatic 108, 3) := by decide +kernel
theorem dL_law_215 : decode cL_law 215 = .ok (.iand, 1) := by decide +kernel
theorem dL_law_216 : decode cL_law 216 = .ok (.istore_n 2, 1) := by decide +kernel
theorem dL_law_217 : decode cL_law 217 = .ok (.aload_n 1, 1) := by decide +kernel
theorem dL_law_218 : decode cL_law 218 = .ok (.iload 6, 2) := by decide +kernel
theorem dL_law_220 : decode cL_law 220 = .ok (.invokevirtual 112, 3) := by decide +kernel
theorem dL_law_223 : decode cL_law 223 = .ok (.istore 10, 2) := by decide +kernel
theorem dL_law_225 : decode cL_law 225 = .ok (.aload_n 1, 1) := by decide +kernel
theorem dL_law_226 : decode cL_law 226 = .ok (.invokevirtual 115, 3) := by decide +kernel
theorem dL_law_229 : decode cL_law 229 = .ok (.istore 12, 2) := by decide +kernel
theorem dL_law_231 : decode cL_law 231 = .ok (.iload_n 2, 1) := by decide +kernel
theorem dL_law_232 : decode cL_law 232 = .ok (.iload 10, 2) := by decide +kernel
theorem dL_law_234 : decode cL_law 234 = .ok (.bipush (-3), 2) := by decide +kernel
theorem dL_law_236 : decode cL_law 236 = .ok (.if_icmp .eq 34, 3) := by decide +kernel
theorem dL_law_239 : decode cL_law 239 = .ok (.iload 10, 2) := by decide +kernel
theorem dL_law_241 : decode cL_law 241 = .ok (.bipush (-4), 2) := by decide +kernel
theorem dL_law_243 : decode cL_law 243 = .ok (.if_icmp .eq 27, 3) := by decide +kernel
theorem dL_law_246 : decode cL_law 246 = .ok (.iload 10, 2) := by decide +kernel
theorem dL_law_248 : decode cL_law 248 = .ok (.iload 7, 2) := by decide +kernel
theorem dL_law_250 : decode cL_law 250 = .ok (.if_icmp .ne 24, 3) := by decide +kernel
theorem dL_law_253 : decode cL_law 253 = .ok (.aload_n 1, 1) := by decide +kernel
theorem dL_law_254 : decode cL_law 254 = .ok (.iload 10, 2) := by decide +kernel
theorem dL_law_256 : decode cL_law 256 = .ok (.iconst 1, 1) := by decide +kernel
theorem dL_law_257 : decode cL_law 257 = .ok (.invokevirtual 53, 3) := by decide +kernel
theorem dL_law_260 : decode cL_law 260 = .ok (.iload 6, 2) := by decide +kernel
theorem dL_law_262 : decode cL_law 262 = .ok (.if_icmp .ne 12, 3) := by decide +kernel
theorem dL_law_265 : decode cL_law 265 = .ok (.iload 12, 2) := by decide +kernel
theorem dL_law_267 : decode cL_law 267 = .ok (.ifCond .ne 7, 3) := by decide +kernel
theorem dL_law_270 : decode cL_law 270 = .ok (.iconst 1, 1) := by decide +kernel
theorem dL_law_271 : decode cL_law 271 = .ok (.goto 4, 3) := by decide +kernel
theorem dL_law_274 : decode cL_law 274 = .ok (.iconst 0, 1) := by decide +kernel
theorem dL_law_275 : decode cL_law 275 = .ok (.iand, 1) := by decide +kernel
theorem dL_law_276 : decode cL_law 276 = .ok (.istore_n 2, 1) := by decide +kernel
theorem dL_law_277 : decode cL_law 277 = .ok (.goto 939, 3) := by decide +kernel
theorem dL_law_280 : decode cL_law 280 = .ok (.iload 5, 2) := by decide +kernel
theorem dL_law_282 : decode cL_law 282 = .ok (.bipush 6, 2) := by decide +kernel
theorem dL_law_284 : decode cL_law 284 = .ok (.if_icmp .ne 121, 3) := by decide +kernel
theorem dL_law_287 : decode cL_law 287 = .ok (.new 25, 3) := by decide +kernel
theorem dL_law_290 : decode cL_law 290 = .ok (.dup, 1) := by decide +kernel
theorem dL_law_291 : decode cL_law 291 = .ok (.invokespecial 27, 3) := by decide +kernel
theorem dL_law_294 : decode cL_law 294 = .ok (.iload 4, 2) := by decide +kernel
theorem dL_law_296 : decode cL_law 296 = .ok (.iconst 4, 1) := by decide +kernel
theorem dL_law_297 : decode cL_law 297 = .ok (.ishr, 1) := by decide +kernel
theorem dL_law_298 : decode cL_law 298 = .ok (.invokestatic 103, 3) := by decide +kernel
theorem dL_law_301 : decode cL_law 301 = .ok (.invokevirtual 30, 3) := by decide +kernel
theorem dL_law_304 : decode cL_law 304 = .ok (.ldc 118, 2) := by decide +kernel
theorem dL_law_306 : decode cL_law 306 = .ok (.invokevirtual 30, 3) := by decide +kernel
theorem dL_law_309 : decode cL_law 309 = .ok (.iload 4, 2) := by decide +kernel
theorem dL_law_311 : decode cL_law 311 = .ok (.bipush 14, 2) := by decide +kernel
theorem dL_law_313 : decode cL_law 313 = .ok (.ishr, 1) := by decide +kernel
theorem dL_law_314 : decode cL_law 314 = .ok (.invokestatic 103, 3) := by decide +kernel
theorem dL_law_317 : decode cL_law 317 = .ok (.invokevirtual 30, 3) := by decide +kernel
theorem dL_law_320 : decode cL_law 320 = .ok (.ldc 120, 2) := by decide +kernel
theorem dL_law_322 : decode cL_law 322 = .ok (.invokevirtual 30, 3) := by decide +kernel
theorem dL_law_325 : decode cL_law 325 = .ok (.iload 4, 2) := by decide +kernel
theorem dL_law_327 : decode cL_law 327 = .ok (.bipush 20, 2) := by decide +kernel
theorem dL_law_329 : decode cL_law 329 = .ok (.ishr, 1) := by decide +kernel
theorem dL_law_330 : decode cL_law 330 = .ok (.invokestatic 103, 3) := by decide +kernel
theorem dL_law_333 : decode cL_law 333 = .ok (.invokevirtual 30, 3) := by decide +kernel
theorem dL_law_336 : decode cL_law 336 = .ok (.ldc 122, 2) := by decide +kernel
theorem dL_law_338 : decode cL_law 338 = .ok (.invokevirtual 30, 3) := by decide +kernel
theorem dL_law_341 : decode cL_law 341 = .ok (.invokevirtual 37, 3) := by decide +kernel
theorem dL_law_344 : decode cL_law 344 = .ok (.astore 11, 2) := by decide +kernel
theorem dL_law_346 : decode cL_law 346 = .ok (.iload_n 2, 1) := by decide +kernel
theorem dL_law_347 : decode cL_law 347 = .ok (.aload_n 1, 1) := by decide +kernel
theorem dL_law_348 : decode cL_law 348 = .ok (.aload 11, 2) := by decide +kernel
theorem dL_law_350 : decode cL_law 350 = .ok (.invokestatic 108, 3) := by decide +kernel
theorem dL_law_353 : decode cL_law 353 = .ok (.iand, 1) := by decide +kernel
theorem dL_law_354 : decode cL_law 354 = .ok (.istore_n 2, 1) := by decide +kernel
theorem dL_law_355 : decode cL_law 355 = .ok (.aload_n 1, 1) := by decide +kernel
theorem dL_law_356 : decode cL_law 356 = .ok (.iload 6, 2) := by decide +kernel
theorem dL_law_358 : decode cL_law 358 = .ok (.iload 4, 2) := by decide +kernel
theorem dL_law_360 : decode cL_law 360 = .ok (.bipush 24, 2) := by decide +kernel
theorem dL_law_362 : decode cL_law 362 = .ok (.ishr, 1) := by decide +kernel
theorem dL_law_363 : decode cL_law 363 = .ok (.bipush 7, 2) := by decide +kernel
theorem dL_law_365 : decode cL_law 365 = .ok (.iand, 1) := by decide +kernel
theorem dL_law_366 : decode cL_law 366 = .ok (.iconst 3, 1) := by decide +kernel
theorem dL_law_367 : decode cL_law 367 = .ok (.isub, 1) := by decide +kernel
theorem dL_law_368 : decode cL_law 368 = .ok (.invokevirtual 124, 3) := by decide +kernel
theorem dL_law_371 : decode cL_law 371 = .ok (.istore 10, 2) := by decide +kernel
theorem dL_law_373 : decode cL_law 373 = .ok (.iload_n 2, 1) := by decide +kernel
theorem dL_law_374 : decode cL_law 374 = .ok (.aload_n 1, 1) := by decide +kernel
theorem dL_law_375 : decode cL_law 375 = .ok (.invokevirtual 115, 3) := by decide +kernel
theorem dL_law_378 : decode cL_law 378 = .ok (.iload 10, 2) := by decide +kernel
theorem dL_law_380 : decode cL_law 380 = .ok (.ifCond .ge 11, 3) := by decide +kernel
theorem dL_law_383 : decode cL_law 383 = .ok (.aload 11, 2) := by decide +kernel
theorem dL_law_385 : decode cL_law 385 = .ok (.invokevirtual 9, 3) := by decide +kernel
theorem dL_law_388 : decode cL_law 388 = .ok (.goto 4, 3) := by decide +kernel
theorem dL_law_391 : decode cL_law 391 = .ok (.iconst 0, 1) := by decide +kernel
theorem dL_law_392 : decode cL_law 392 = .ok (.if_icmp .ne 7, 3) := by decide +kernel
theorem dL_law_395 : decode cL_law 395 = .ok (.iconst 1, 1) := by decide +kernel
theorem dL_law_396 : decode cL_law 396 = .ok (.goto 4, 3) := by decide +kernel
theorem dL_law_399 : decode cL_law 399 = .ok (.iconst 0, 1) := by decide +kernel
theorem dL_law_400 : decode cL_law 400 = .ok (.iand, 1) := by decide +kernel
theorem dL_law_401 : decode cL_law 401 = .ok (.istore_n 2, 1) := by decide +kernel
theorem dL_law_402 : decode cL_law 402 = .ok (.goto 814, 3) := by decide +kernel
theorem dL_law_405 : decode cL_law 405 = .ok (.iload 5, 2) := by decide +kernel
theorem dL_law_407 : decode cL_law 407 = .ok (.bipush 7, 2) := by decide +kernel
theorem dL_law_409 : decode cL_law 409 = .ok (.if_icmp .ne 32, 3) := by decide +kernel
theorem dL_law_412 : decode cL_law 412 = .ok (.iload 7, 2) := by decide +kernel
theorem dL_law_414 : decode cL_law 414 = .ok (.ifCond .le 21, 3) := by decide +kernel
theorem dL_law_417 : decode cL_law 417 = .ok (.aload_n 1, 1) := by decide +kernel
theorem dL_law_418 : decode cL_law 418 = .ok (.iload 4, 2) := by decide +kernel
theorem dL_law_420 : decode cL_law 420 = .ok (.bipush 7, 2) := by decide +kernel
theorem dL_law_422 : decode cL_law 422 = .ok (.ishr, 1) := by decide +kernel
theorem dL_law_423 : decode cL_law 423 = .ok (.bipush 63, 2) := by decide +kernel
theorem dL_law_425 : decode cL_law 425 = .ok (.iand, 1) := by decide +kernel
theorem dL_law_426 : decode cL_law 426 = .ok (.iload 7, 2) := by decide +kernel
theorem dL_law_428 : decode cL_law 428 = .ok (.irem, 1) := by decide +kernel
theorem dL_law_429 : decode cL_law 429 = .ok (.invokevirtual 127, 3) := by decide +kernel
theorem dL_law_432 : decode cL_law 432 = .ok (.goto 4, 3) := by decide +kernel
theorem dL_law_435 : decode cL_law 435 = .ok (.iconst (-1), 1) := by decide +kernel
theorem dL_law_436 : decode cL_law 436 = .ok (.istore 10, 2) := by decide +kernel
theorem dL_law_438 : decode cL_law 438 = .ok (.goto 778, 3) := by decide +kernel
theorem dL_law_441 : decode cL_law 441 = .ok (.iload 5, 2) := by decide +kernel
theorem dL_law_443 : decode cL_law 443 = .ok (.bipush 8, 2) := by decide +kernel
theorem dL_law_445 : decode cL_law 445 = .ok (.if_icmp .ne 131, 3) := by decide +kernel
theorem dL_law_448 : decode cL_law 448 = .ok (.aload_n 1, 1) := by decide +kernel
theorem dL_law_449 : decode cL_law 449 = .ok (.iload 6, 2) := by decide +kernel
theorem dL_law_451 : decode cL_law 451 = .ok (.iconst 0, 1) := by decide +kernel
theorem dL_law_452 : decode cL_law 452 = .ok (.invokevirtual 130, 3) := by decide +kernel
theorem dL_law_455 : decode cL_law 455 = .ok (.istore 11, 2) := by decide +kernel
theorem dL_law_457 : decode cL_law 457 = .ok (.aload_n 1, 1) := by decide +kernel
theorem dL_law_458 : decode cL_law 458 = .ok (.iload 6, 2) := by decide +kernel
theorem dL_law_460 : decode cL_law 460 = .ok (.iconst 5, 1) := by decide +kernel
theorem dL_law_461 : decode cL_law 461 = .ok (.invokevirtual 130, 3) := by decide +kernel
theorem dL_law_464 : decode cL_law 464 = .ok (.istore 12, 2) := by decide +kernel
theorem dL_law_466 : decode cL_law 466 = .ok (.aload_n 1, 1) := by decide +kernel
theorem dL_law_467 : decode cL_law 467 = .ok (.iload 6, 2) := by decide +kernel
theorem dL_law_469 : decode cL_law 469 = .ok (.iconst 3, 1) := by decide +kernel
theorem dL_law_470 : decode cL_law 470 = .ok (.invokevirtual 130, 3) := by decide +kernel
theorem dL_law_473 : decode cL_law 473 = .ok (.istore 13, 2) := by decide +kernel
theorem dL_law_475 : decode cL_law 475 = .ok (.aload_n 1, 1) := by decide +kernel
theorem dL_law_476 : decode cL_law 476 = .ok (.bipush 7, 2) := by decide +kernel
theorem dL_law_478 : decode cL_law 478 = .ok (.invokevirtual 43, 3) := by decide +kernel
theorem dL_law_481 : decode cL_law 481 = .ok (.istore 14, 2) := by decide +kernel
theorem dL_law_483 : decode cL_law 483 = .ok (.iload_n 2, 1) := by decide +kernel
theorem dL_law_484 : decode cL_law 484 = .ok (.aload_n 1, 1) := by decide +kernel
theorem dL_law_485 : decode cL_law 485 = .ok (.invokestatic 94, 3) := by decide +kernel
theorem dL_law_488 : decode cL_law 488 = .ok (.lload 8, 2) := by decide +kernel
theorem dL_law_490 : decode cL_law 490 = .ok (.lcmp, 1) := by decide +kernel
theorem dL_law_491 : decode cL_law 491 = .ok (.ifCond .ne 7, 3) := by decide +kernel
theorem dL_law_494 : decode cL_law 494 = .ok (.iconst 1, 1) := by decide +kernel
theorem dL_law_495 : decode cL_law 495 = .ok (.goto 4, 3) := by decide +kernel
theorem dL_law_498 : decode cL_law 498 = .ok (.iconst 0, 1) := by decide +kernel
theorem dL_law_499 : decode cL_law 499 = .ok (.iand, 1) := by decide +kernel
theorem dL_law_500 : decode cL_law 500 = .ok (.istore_n 2, 1) := by decide +kernel
theorem dL_law_501 : decode cL_law 501 = .ok (.aload_n 1, 1) := by decide +kernel
theorem dL_law_502 : decode cL_law 502 = .ok (.iload 6, 2) := by decide +kernel
theorem dL_law_504 : decode cL_law 504 = .ok (.invokevirtual 133, 3) := by decide +kernel
theorem dL_law_507 : decode cL_law 507 = .ok (.istore 10, 2) := by decide +kernel
theorem dL_law_509 : decode cL_law 509 = .ok (.iload_n 2, 1) := by decide +kernel
theorem dL_law_510 : decode cL_law 510 = .ok (.iload 10, 2) := by decide +kernel
theorem dL_law_512 : decode cL_law 512 = .ok (.iload 11, 2) := by decide +kernel
theorem dL_law_514 : decode cL_law 514 = .ok (.if_icmp .ne 56, 3) := by decide +kernel
theorem dL_law_517 : decode cL_law 517 = .ok (.iload 10, 2) := by decide +kernel
theorem dL_law_519 : decode cL_law 519 = .ok (.ifCond .lt 47, 3) := by decide +kernel
theorem dL_law_522 : decode cL_law 522 = .ok (.aload_n 1, 1) := by decide +kernel
theorem dL_law_523 : decode cL_law 523 = .ok (.iload 6, 2) := by decide +kernel
theorem dL_law_525 : decode cL_law 525 = .ok (.iconst 3, 1) := by decide +kernel
theorem dL_law_526 : decode cL_law 526 = .ok (.invokevirtual 57, 3) := by decide +kernel
theorem dL_law_529 : decode cL_law 529 = .ok (.ifCond .ne 41, 3) := by decide +kernel
theorem dL_law_532 : decode cL_law 532 = .ok (.aload_n 1, 1) := by decide +kernel
theorem dL_law_533 : decode cL_law 533 = .ok (.iconst 3, 1) := by decide +kernel
theorem dL_law_534 : decode cL_law 534 = .ok (.invokevirtual 43, 3) := by decide +kernel
theorem dL_law_537 : decode cL_law 537 = .ok (.iload 12, 2) := by decide +kernel
theorem dL_law_539 : decode cL_law 539 = .ok (.if_icmp .ne 31, 3) := by decide +kernel
theorem dL_law_542 : decode cL_law 542 = .ok (.aload_n 1, 1) := by decide +kernel
theorem dL_law_543 : decode cL_law 543 = .ok (.bipush 7, 2) := by decide +kernel
theorem dL_law_545 : decode cL_law 545 = .ok (.invokevirtual 43, 3) := by decide +kernel
theorem dL_law_548 : decode cL_law 548 = .ok (.iload 14, 2) := by decide +kernel
theorem dL_law_550 : decode cL_law 550 = .ok (.iload 13, 2) := by decide +kernel
theorem dL_law_552 : decode cL_law 552 = .ok (.iadd, 1) := by decide +kernel
theorem dL_law_553 : decode cL_law 553 = .ok (.if_icmp .ne 17, 3) := by decide +kernel
theorem dL_law_556 : decode cL_law 556 = .ok (.aload_n 1, 1) := by decide +kernel
theorem dL_law_557 : decode cL_law 557 = .ok (.iload 6, 2) := by decide +kernel
theorem dL_law_559 : decode cL_law 559 = .ok (.iconst (-1), 1) := by decide +kernel
theorem dL_law_560 : decode cL_law 560 = .ok (.invokevirtual 136, 3) := by decide +kernel
theorem dL_law_563 : decode cL_law 563 = .ok (.ifCond .ne 7, 3) := by decide +kernel
theorem dL_law_566 : decode cL_law 566 = .ok (.iconst 1, 1) := by decide +kernel
theorem dL_law_567 : decode cL_law 567 = .ok (.goto 4, 3) := by decide +kernel
theorem dL_law_570 : decode cL_law 570 = .ok (.iconst 0, 1) := by decide +kernel
theorem dL_law_571 : decode cL_law 571 = .ok (.iand, 1) := by decide +kernel
theorem dL_law_572 : decode cL_law 572 = .ok (.istore_n 2, 1) := by decide +kernel
theorem dL_law_573 : decode cL_law 573 = .ok (.goto 643, 3) := by decide +kernel
theorem dL_law_576 : decode cL_law 576 = .ok (.iload 5, 2) := by decide +kernel
theorem dL_law_578 : decode cL_law 578 = .ok (.bipush 9, 2) := by decide +kernel
theorem dL_law_580 : decode cL_law 580 = .ok (.if_icmp .ne 34, 3) := by decide +kernel
theorem dL_law_583 : decode cL_law 583 = .ok (.iload 7, 2) := by decide +kernel
theorem dL_law_585 : decode cL_law 585 = .ok (.ifCond .le 23, 3) := by decide +kernel
theorem dL_law_588 : decode cL_law 588 = .ok (.aload_n 1, 1) := by decide +kernel
theorem dL_law_589 : decode cL_law 589 = .ok (.iload 4, 2) := by decide +kernel
theorem dL_law_591 : decode cL_law 591 = .ok (.bipush 7, 2) := by decide +kernel
theorem dL_law_593 : decode cL_law 593 = .ok (.ishr, 1) := by decide +kernel
theorem dL_law_594 : decode cL_law 594 = .ok (.bipush 63, 2) := by decide +kernel
theorem dL_law_596 : decode cL_law 596 = .ok (.iand, 1) := by decide +kernel
theorem dL_law_597 : decode cL_law 597 = .ok (.iload 7, 2) := by decide +kernel
theorem dL_law_599 : decode cL_law 599 = .ok (.irem, 1) := by decide +kernel
theorem dL_law_600 : decode cL_law 600 = .ok (.iload 6, 2) := by decide +kernel
theorem dL_law_602 : decode cL_law 602 = .ok (.invokevirtual 139, 3) := by decide +kernel
theorem dL_law_605 : decode cL_law 605 = .ok (.goto 4, 3) := by decide +kernel
theorem dL_law_608 : decode cL_law 608 = .ok (.iconst (-1), 1) := by decide +kernel
theorem dL_law_609 : decode cL_law 609 = .ok (.istore 10, 2) := by decide +kernel
theorem dL_law_611 : decode cL_law 611 = .ok (.goto 605, 3) := by decide +kernel
theorem dL_law_614 : decode cL_law 614 = .ok (.iload 5, 2) := by decide +kernel
theorem dL_law_616 : decode cL_law 616 = .ok (.bipush 12, 2) := by decide +kernel
theorem dL_law_618 : decode cL_law 618 = .ok (.if_icmp .ge 96, 3) := by decide +kernel
theorem dL_law_621 : decode cL_law 621 = .ok (.aload_n 1, 1) := by decide +kernel
theorem dL_law_622 : decode cL_law 622 = .ok (.iconst 0, 1) := by decide +kernel
theorem dL_law_623 : decode cL_law 623 = .ok (.invokevirtual 142, 3) := by decide +kernel
theorem dL_law_626 : decode cL_law 626 = .ok (.istore 11, 2) := by decide +kernel
theorem dL_law_628 : decode cL_law 628 = .ok (.iload 11, 2) := by decide +kernel
theorem dL_law_630 : decode cL_law 630 = .ok (.ifCond .ge 12, 3) := by decide +kernel
theorem dL_law_633 : decode cL_law 633 = .ok (.aload_n 1, 1) := by decide +kernel
theorem dL_law_634 : decode cL_law 634 = .ok (.bipush 7, 2) := by decide +kernel
theorem dL_law_636 : decode cL_law 636 = .ok (.invokevirtual 43, 3) := by decide +kernel
theorem dL_law_639 : decode cL_law 639 = .ok (.goto 11, 3) := by decide +kernel
theorem dL_law_642 : decode cL_law 642 = .ok (.aload_n 1, 1) := by decide +kernel
theorem dL_law_643 : decode cL_law 643 = .ok (.iload 11, 2) := by decide +kernel
theorem dL_law_645 : decode cL_law 645 = .ok (.iconst 1, 1) := by decide +kernel
theorem dL_law_646 : decode cL_law 646 = .ok (.iconst 5, 1) := by decide +kernel
theorem dL_law_647 : decode cL_law 647 = .ok (.invokevirtual 145, 3) := by decide +kernel
theorem dL_law_650 : decode cL_law 650 = .ok (.istore 12, 2) := by decide +kernel
theorem dL_law_652 : decode cL_law 652 = .ok (.iload_n 2, 1) := by decide +kernel
theorem dL_law_653 : decode cL_law 653 = .ok (.aload_n 1, 1) := by decide +kernel
theorem dL_law_654 : decode cL_law 654 = .ok (.invokestatic 94, 3) := by decide +kernel
theorem dL_law_657 : decode cL_law 657 = .ok (.lload 8, 2) := by decide +kernel
theorem dL_law_659 : decode cL_law 659 = .ok (.lcmp, 1) := by decide +kernel
theorem dL_law_660 : decode cL_law 660 = .ok (.ifCond .ne 7, 3) := by decide +kernel
theorem dL_law_663 : decode cL_law 663 = .ok (.iconst 1, 1) := by decide +kernel
theorem dL_law_664 : decode cL_law 664 = .ok (.goto 4, 3) := by decide +kernel
theorem dL_law_667 : decode cL_law 667 = .ok (.iconst 0, 1) := by decide +kernel
theorem dL_law_668 : decode cL_law 668 = .ok (.iand, 1) := by decide +kernel
theorem dL_law_669 : decode cL_law 669 = .ok (.istore_n 2, 1) := by decide +kernel
theorem dL_law_670 : decode cL_law 670 = .ok (.aload_n 1, 1) := by decide +kernel
theorem dL_law_671 : decode cL_law 671 = .ok (.invokevirtual 149, 3) := by decide +kernel
theorem dL_law_674 : decode cL_law 674 = .ok (.iload 11, 2) := by decide +kernel
theorem dL_law_676 : decode cL_law 676 = .ok (.if_icmp .ne 7, 3) := by decide +kernel
theorem dL_law_679 : decode cL_law 679 = .ok (.iconst 0, 1) := by decide +kernel
theorem dL_law_680 : decode cL_law 680 = .ok (.goto 5, 3) := by decide +kernel
theorem dL_law_683 : decode cL_law 683 = .ok (.bipush (-99), 2) := by decide +kernel
theorem dL_law_685 : decode cL_law 685 = .ok (.istore 10, 2) := by decide +kernel
theorem dL_law_687 : decode cL_law 687 = .ok (.iload_n 2, 1) := by decide +kernel
theorem dL_law_688 : decode cL_law 688 = .ok (.iload 10, 2) := by decide +kernel
theorem dL_law_690 : decode cL_law 690 = .ok (.ifCond .ne 18, 3) := by decide +kernel
theorem dL_law_693 : decode cL_law 693 = .ok (.aload_n 1, 1) := by decide +kernel
theorem dL_law_694 : decode cL_law 694 = .ok (.bipush 7, 2) := by decide +kernel
theorem dL_law_696 : decode cL_law 696 = .ok (.invokevirtual 43, 3) := by decide +kernel
theorem dL_law_699 : decode cL_law 699 = .ok (.iload 12, 2) := by decide +kernel
theorem dL_law_701 : decode cL_law 701 = .ok (.if_icmp .ne 7, 3) := by decide +kernel
theorem dL_law_704 : decode cL_law 704 = .ok (.iconst 1, 1) := by decide +kernel
theorem dL_law_705 : decode cL_law 705 = .ok (.goto 4, 3) := by decide +kernel
theorem dL_law_708 : decode cL_law 708 = .ok (.iconst 0, 1) := by decide +kernel
theorem dL_law_709 : decode cL_law 709 = .ok (.iand, 1) := by decide +kernel
theorem dL_law_710 : decode cL_law 710 = .ok (.istore_n 2, 1) := by decide +kernel
theorem dL_law_711 : decode cL_law 711 = .ok (.goto 505, 3) := by decide +kernel
theorem dL_law_714 : decode cL_law 714 = .ok (.iload 5, 2) := by decide +kernel
theorem dL_law_716 : decode cL_law 716 = .ok (.bipush 12, 2) := by decide +kernel
theorem dL_law_718 : decode cL_law 718 = .ok (.if_icmp .ne 72, 3) := by decide +kernel
theorem dL_law_721 : decode cL_law 721 = .ok (.iload_n 2, 1) := by decide +kernel
theorem dL_law_722 : decode cL_law 722 = .ok (.aload_n 1, 1) := by decide +kernel
theorem dL_law_723 : decode cL_law 723 = .ok (.invokevirtual 152, 3) := by decide +kernel
theorem dL_law_726 : decode cL_law 726 = .ok (.aload_n 1, 1) := by decide +kernel
theorem dL_law_727 : decode cL_law 727 = .ok (.iconst 3, 1) := by decide +kernel
theorem dL_law_728 : decode cL_law 728 = .ok (.invokevirtual 43, 3) := by decide +kernel
theorem dL_law_731 : decode cL_law 731 = .ok (.if_icmp .ne 35, 3) := by decide +kernel
theorem dL_law_734 : decode cL_law 734 = .ok (.aload_n 1, 1) := by decide +kernel
theorem dL_law_735 : decode cL_law 735 = .ok (.iconst 0, 1) := by decide +kernel
theorem dL_law_736 : decode cL_law 736 = .ok (.invokevirtual 133, 3) := by decide +kernel
theorem dL_law_739 : decode cL_law 739 = .ok (.ifCond .lt 27, 3) := by decide +kernel
theorem dL_law_742 : decode cL_law 742 = .ok (.aload_n 1, 1) := by decide +kernel
theorem dL_law_743 : decode cL_law 743 = .ok (.iconst 3, 1) := by decide +kernel
theorem dL_law_744 : decode cL_law 744 = .ok (.invokevirtual 43, 3) := by decide +kernel
theorem dL_law_747 : decode cL_law 747 = .ok (.ifCond .ne 19, 3) := by decide +kernel
theorem dL_law_750 : decode cL_law 750 = .ok (.aload_n 1, 1) := by decide +kernel
theorem dL_law_751 : decode cL_law 751 = .ok (.invokevirtual 155, 3) := by decide +kernel
theorem dL_law_754 : decode cL_law 754 = .ok (.aload_n 1, 1) := by decide +kernel
theorem dL_law_755 : decode cL_law 755 = .ok (.iconst 3, 1) := by decide +kernel
theorem dL_law_756 : decode cL_law 756 = .ok (.invokevirtual 43, 3) := by decide +kernel
theorem dL_law_759 : decode cL_law 759 = .ok (.if_icmp .ne 7, 3) := by decide +kernel
theorem dL_law_762 : decode cL_law 762 = .ok (.iconst 1, 1) := by decide +kernel
theorem dL_law_763 : decode cL_law 763 = .ok (.goto 4, 3) := by decide +kernel
theorem dL_law_766 : decode cL_law 766 = .ok (.iconst 0, 1) := by decide +kernel
theorem dL_law_767 : decode cL_law 767 = .ok (.iand, 1) := by decide +kernel
theorem dL_law_768 : decode cL_law 768 = .ok (.istore_n 2, 1) := by decide +kernel
theorem dL_law_769 : decode cL_law 769 = .ok (.iload_n 2, 1) := by decide +kernel
theorem dL_law_770 : decode cL_law 770 = .ok (.aload_n 1, 1) := by decide +kernel
theorem dL_law_771 : decode cL_law 771 = .ok (.invokestatic 94, 3) := by decide +kernel
theorem dL_law_774 : decode cL_law 774 = .ok (.lload 8, 2) := by decide +kernel
theorem dL_law_776 : decode cL_law 776 = .ok (.lcmp, 1) := by decide +kernel
theorem dL_law_777 : decode cL_law 777 = .ok (.ifCond .ne 7, 3) := by decide +kernel
theorem dL_law_780 : decode cL_law 780 = .ok (.iconst 1, 1) := by decide +kernel
theorem dL_law_781 : decode cL_law 781 = .ok (.goto 4, 3) := by decide +kernel
theorem dL_law_784 : decode cL_law 784 = .ok (.iconst 0, 1) := by decide +kernel
theorem dL_law_785 : decode cL_law 785 = .ok (.iand, 1) := by decide +kernel
theorem dL_law_786 : decode cL_law 786 = .ok (.istore_n 2, 1) := by decide +kernel
theorem dL_law_787 : decode cL_law 787 = .ok (.goto 429, 3) := by decide +kernel
theorem dL_law_790 : decode cL_law 790 = .ok (.iload 5, 2) := by decide +kernel
theorem dL_law_792 : decode cL_law 792 = .ok (.bipush 13, 2) := by decide +kernel
theorem dL_law_794 : decode cL_law 794 = .ok (.if_icmp .ne 212, 3) := by decide +kernel
theorem dL_law_797 : decode cL_law 797 = .ok (.aload_n 1, 1) := by decide +kernel
theorem dL_law_798 : decode cL_law 798 = .ok (.iconst 3, 1) := by decide +kernel
theorem dL_law_799 : decode cL_law 799 = .ok (.invokevirtual 43, 3) := by decide +kernel
theorem dL_law_802 : decode cL_law 802 = .ok (.istore 11, 2) := by decide +kernel
theorem dL_law_804 : decode cL_law 804 = .ok (.iconst (-1), 1) := by decide +kernel
theorem dL_law_805 : decode cL_law 805 = .ok (.istore 12, 2) := by decide +kernel
theorem dL_law_807 : decode cL_law 807 = .ok (.iconst 0, 1) := by decide +kernel
theorem dL_law_808 : decode cL_law 808 = .ok (.istore 13, 2) := by decide +kernel
theorem dL_law_810 : decode cL_law 810 = .ok (.iload 13, 2) := by decide +kernel
theorem dL_law_812 : decode cL_law 812 = .ok (.iload 11, 2) := by decide +kernel
theorem dL_law_814 : decode cL_law 814 = .ok (.if_icmp .ge 152, 3) := by decide +kernel
theorem dL_law_817 : decode cL_law 817 = .ok (.aload_n 1, 1) := by decide +kernel
theorem dL_law_818 : decode cL_law 818 = .ok (.iload 13, 2) := by decide +kernel
theorem dL_law_820 : decode cL_law 820 = .ok (.invokevirtual 158, 3) := by decide +kernel
theorem dL_law_823 : decode cL_law 823 = .ok (.istore 14, 2) := by decide +kernel
theorem dL_law_825 : decode cL_law 825 = .ok (.iload_n 2, 1) := by decide +kernel
theorem dL_law_826 : decode cL_law 826 = .ok (.iload 14, 2) := by decide +kernel
theorem dL_law_828 : decode cL_law 828 = .ok (.ifCond .lt 17, 3) := by decide +kernel
theorem dL_law_831 : decode cL_law 831 = .ok (.aload_n 1, 1) := by decide +kernel
theorem dL_law_832 : decode cL_law 832 = .ok (.iload 14, 2) := by decide +kernel
theorem dL_law_834 : decode cL_law 834 = .ok (.iconst 0, 1) := by decide +kernel
theorem dL_law_835 : decode cL_law 835 = .ok (.invokevirtual 53, 3) := by decide +kernel
theorem dL_law_838 : decode cL_law 838 = .ok (.ifCond .ne 7, 3) := by decide +kernel
theorem dL_law_841 : decode cL_law 841 = .ok (.iconst 1, 1) := by decide +kernel
theorem dL_law_842 : decode cL_law 842 = .ok (.goto 4, 3) := by decide +kernel
theorem dL_law_845 : decode cL_law 845 = .ok (.iconst 0, 1) := by decide +kernel
theorem dL_law_846 : decode cL_law 846 = .ok (.iand, 1) := by decide +kernel
theorem dL_law_847 : decode cL_law 847 = .ok (.istore_n 2, 1) := by decide +kernel
theorem dL_law_848 : decode cL_law 848 = .ok (.iload 13, 2) := by decide +kernel
theorem dL_law_850 : decode cL_law 850 = .ok (.ifCond .le 106, 3) := by decide +kernel
theorem dL_law_853 : decode cL_law 853 = .ok (.iload_n 2, 1) := by decide +kernel
theorem dL_law_854 : decode cL_law 854 = .ok (.ifCond .eq 102, 3) := by decide +kernel
theorem dL_law_857 : decode cL_law 857 = .ok (.iconst 0, 1) := by decide +kernel
theorem dL_law_858 : decode cL_law 858 = .ok (.istore 15, 2) := by decide +kernel
theorem dL_law_860 : decode cL_law 860 = .ok (.iload 15, 2) := by decide +kernel
theorem dL_law_862 : decode cL_law 862 = .ok (.aload_n 1, 1) := by decide +kernel
theorem dL_law_863 : decode cL_law 863 = .ok (.iload 12, 2) := by decide +kernel
theorem dL_law_865 : decode cL_law 865 = .ok (.iconst (-1), 1) := by decide +kernel
theorem dL_law_866 : decode cL_law 866 = .ok (.invokevirtual 161, 3) := by decide +kernel
theorem dL_law_869 : decode cL_law 869 = .ok (.if_icmp .ge 28, 3) := by decide +kernel
theorem dL_law_872 : decode cL_law 872 = .ok (.aload_n 1, 1) := by decide +kernel
theorem dL_law_873 : decode cL_law 873 = .ok (.iload 12, 2) := by decide +kernel
theorem dL_law_875 : decode cL_law 875 = .ok (.iload 15, 2) := by decide +kernel
theorem dL_law_877 : decode cL_law 877 = .ok (.invokevirtual 161, 3) := by decide +kernel
theorem dL_law_880 : decode cL_law 880 = .ok (.aload_n 1, 1) := by decide +kernel
theorem dL_law_881 : decode cL_law 881 = .ok (.iload 14, 2) := by decide +kernel
theorem dL_law_883 : decode cL_law 883 = .ok (.iload 15, 2) := by decide +kernel
theorem dL_law_885 : decode cL_law 885 = .ok (.invokevirtual 161, 3) := by decide +kernel
theorem dL_law_888 : decode cL_law 888 = .ok (.if_icmp .ne 9, 3) := by decide +kernel
theorem dL_law_891 : decode cL_law 891 = .ok (.iinc 15 1, 3) := by decide +kernel
theorem dL_law_894 : decode cL_law 894 = .ok (.goto (-34), 3) := by decide +kernel
theorem dL_law_897 : decode cL_law 897 = .ok (.iload_n 2, 1) := by decide +kernel
theorem dL_law_898 : decode cL_law 898 = .ok (.iload 15, 2) := by decide +kernel
theorem dL_law_900 : decode cL_law 900 = .ok (.aload_n 1, 1) := by decide +kernel
theorem dL_law_901 : decode cL_law 901 = .ok (.iload 12, 2) := by decide +kernel
theorem dL_law_903 : decode cL_law 903 = .ok (.iconst (-1), 1) := by decide +kernel
theorem dL_law_904 : decode cL_law 904 = .ok (.invokevirtual 161, 3) := by decide +kernel
theorem dL_law_907 : decode cL_law 907 = .ok (.if_icmp .ne 23, 3) := by decide +kernel
theorem dL_law_910 : decode cL_law 910 = .ok (.aload_n 1, 1) := by decide +kernel
theorem dL_law_911 : decode cL_law 911 = .ok (.iload 14, 2) := by decide +kernel
theorem dL_law_913 : decode cL_law 913 = .ok (.iconst (-1), 1) := by decide +kernel
theorem dL_law_914 : decode cL_law 914 = .ok (.invokevirtual 161, 3) := by decide +kernel
theorem dL_law_917 : decode cL_law 917 = .ok (.iload 15, 2) := by decide +kernel
theorem dL_law_919 : decode cL_law 919 = .ok (.if_icmp .le 7, 3) := by decide +kernel
theorem dL_law_922 : decode cL_law 922 = .ok (.iconst 1, 1) := by decide +kernel
theorem dL_law_923 : decode cL_law 923 = .ok (.goto 31, 3) := by decide +kernel
theorem dL_law_926 : decode cL_law 926 = .ok (.iconst 0, 1) := by decide +kernel
theorem dL_law_927 : decode cL_law 927 = .ok (.goto 27, 3) := by decide +kernel
theorem dL_law_930 : decode cL_law 930 = .ok (.aload_n 1, 1) := by decide +kernel
theorem dL_law_931 : decode cL_law 931 = .ok (.iload 12, 2) := by decide +kernel
theorem dL_law_933 : decode cL_law 933 = .ok (.iload 15, 2) := by decide +kernel
theorem dL_law_935 : decode cL_law 935 = .ok (.invokevirtual 161, 3) := by decide +kernel
theorem dL_law_938 : decode cL_law 938 = .ok (.aload_n 1, 1) := by decide +kernel
theorem dL_law_939 : decode cL_law 939 = .ok (.iload 14, 2) := by decide +kernel
theorem dL_law_941 : decode cL_law 941 = .ok (.iload 15, 2) := by decide +kernel
theorem dL_law_943 : decode cL_law 943 = .ok (.invokevirtual 161, 3) := by decide +kernel
theorem dL_law_946 : decode cL_law 946 = .ok (.if_icmp .ge 7, 3) := by decide +kernel
theorem dL_law_949 : decode cL_law 949 = .ok (.iconst 1, 1) := by decide +kernel
theorem dL_law_950 : decode cL_law 950 = .ok (.goto 4, 3) := by decide +kernel
theorem dL_law_953 : decode cL_law 953 = .ok (.iconst 0, 1) := by decide +kernel
theorem dL_law_954 : decode cL_law 954 = .ok (.iand, 1) := by decide +kernel
theorem dL_law_955 : decode cL_law 955 = .ok (.istore_n 2, 1) := by decide +kernel
theorem dL_law_956 : decode cL_law 956 = .ok (.iload 14, 2) := by decide +kernel
theorem dL_law_958 : decode cL_law 958 = .ok (.istore 12, 2) := by decide +kernel
theorem dL_law_960 : decode cL_law 960 = .ok (.iinc 13 1, 3) := by decide +kernel
theorem dL_law_963 : decode cL_law 963 = .ok (.goto (-153), 3) := by decide +kernel
theorem dL_law_966 : decode cL_law 966 = .ok (.iload_n 2, 1) := by decide +kernel
theorem dL_law_967 : decode cL_law 967 = .ok (.aload_n 1, 1) := by decide +kernel
theorem dL_law_968 : decode cL_law 968 = .ok (.iload 11, 2) := by decide +kernel
theorem dL_law_970 : decode cL_law 970 = .ok (.invokevirtual 158, 3) := by decide +kernel
theorem dL_law_973 : decode cL_law 973 = .ok (.iconst (-1), 1) := by decide +kernel
theorem dL_law_974 : decode cL_law 974 = .ok (.if_icmp .ne 26, 3) := by decide +kernel
theorem dL_law_977 : decode cL_law 977 = .ok (.aload_n 1, 1) := by decide +kernel
theorem dL_law_978 : decode cL_law 978 = .ok (.iconst (-1), 1) := by decide +kernel
theorem dL_law_979 : decode cL_law 979 = .ok (.invokevirtual 158, 3) := by decide +kernel
theorem dL_law_982 : decode cL_law 982 = .ok (.iconst (-1), 1) := by decide +kernel
theorem dL_law_983 : decode cL_law 983 = .ok (.if_icmp .ne 17, 3) := by decide +kernel
theorem dL_law_986 : decode cL_law 986 = .ok (.aload_n 1, 1) := by decide +kernel
theorem dL_law_987 : decode cL_law 987 = .ok (.invokestatic 94, 3) := by decide +kernel
theorem dL_law_990 : decode cL_law 990 = .ok (.lload 8, 2) := by decide +kernel
theorem dL_law_992 : decode cL_law 992 = .ok (.lcmp, 1) := by decide +kernel
theorem dL_law_993 : decode cL_law 993 = .ok (.ifCond .ne 7, 3) := by decide +kernel
theorem dL_law_996 : decode cL_law 996 = .ok (.iconst 1, 1) := by decide +kernel
theorem dL_law_997 : decode cL_law 997 = .ok (.goto 4, 3) := by decide +kernel
theorem dL_law_1000 : decode cL_law 1000 = .ok (.iconst 0, 1) := by decide +kernel
theorem dL_law_1001 : decode cL_law 1001 = .ok (.iand, 1) := by decide +kernel
theorem dL_law_1002 : decode cL_law 1002 = .ok (.istore_n 2, 1) := by decide +kernel
theorem dL_law_1003 : decode cL_law 1003 = .ok (.goto 213, 3) := by decide +kernel
theorem dL_law_1006 : decode cL_law 1006 = .ok (.iload 5, 2) := by decide +kernel
theorem dL_law_1008 : decode cL_law 1008 = .ok (.bipush 14, 2) := by decide +kernel
theorem dL_law_1010 : decode cL_law 1010 = .ok (.if_icmp .ne 112, 3) := by decide +kernel
theorem dL_law_1013 : decode cL_law 1013 = .ok (.aload_n 1, 1) := by decide +kernel
theorem dL_law_1014 : decode cL_law 1014 = .ok (.iload 6, 2) := by decide +kernel
theorem dL_law_1016 : decode cL_law 1016 = .ok (.iconst (-1), 1) := by decide +kernel
theorem dL_law_1017 : decode cL_law 1017 = .ok (.invokevirtual 136, 3) := by decide +kernel
theorem dL_law_1020 : decode cL_law 1020 = .ok (.istore 11, 2) := by decide +kernel
theorem dL_law_1022 : decode cL_law 1022 = .ok (.iconst 0, 1) := by decide +kernel
theorem dL_law_1023 : decode cL_law 1023 = .ok (.istore 12, 2) := by decide +kernel
theorem dL_law_1025 : decode cL_law 1025 = .ok (.iconst 0, 1) := by decide +kernel
theorem dL_law_1026 : decode cL_law 1026 = .ok (.istore 13, 2) := by decide +kernel
theorem dL_law_1028 : decode cL_law 1028 = .ok (.iload 13, 2) := by decide +kernel
theorem dL_law_1030 : decode cL_law 1030 = .ok (.iload 11, 2) := by decide +kernel
theorem dL_law_1032 : decode cL_law 1032 = .ok (.if_icmp .ge 43, 3) := by decide +kernel
theorem dL_law_1035 : decode cL_law 1035 = .ok (.iload_n 2, 1) := by decide +kernel
theorem dL_law_1036 : decode cL_law 1036 = .ok (.aload_n 1, 1) := by decide +kernel
theorem dL_law_1037 : decode cL_law 1037 = .ok (.aload_n 1, 1) := by decide +kernel
theorem dL_law_1038 : decode cL_law 1038 = .ok (.aload_n 1, 1) := by decide +kernel
theorem dL_law_1039 : decode cL_law 1039 = .ok (.iload 6, 2) := by decide +kernel
theorem dL_law_1041 : decode cL_law 1041 = .ok (.iload 13, 2) := by decide +kernel
theorem dL_law_1043 : decode cL_law 1043 = .ok (.invokevirtual 136, 3) := by decide +kernel
theorem dL_law_1046 : decode cL_law 1046 = .ok (.iconst 1, 1) := by decide +kernel
theorem dL_law_1047 : decode cL_law 1047 = .ok (.invokevirtual 53, 3) := by decide +kernel
theorem dL_law_1050 : decode cL_law 1050 = .ok (.iload 6, 2) := by decide +kernel
theorem dL_law_1052 : decode cL_law 1052 = .ok (.invokevirtual 163, 3) := by decide +kernel
theorem dL_law_1055 : decode cL_law 1055 = .ok (.iconst 1, 1) := by decide +kernel
theorem dL_law_1056 : decode cL_law 1056 = .ok (.if_icmp .ne 7, 3) := by decide +kernel
theorem dL_law_1059 : decode cL_law 1059 = .ok (.iconst 1, 1) := by decide +kernel
theorem dL_law_1060 : decode cL_law 1060 = .ok (.goto 4, 3) := by decide +kernel
theorem dL_law_1063 : decode cL_law 1063 = .ok (.iconst 0, 1) := by decide +kernel
theorem dL_law_1064 : decode cL_law 1064 = .ok (.iand, 1) := by decide +kernel
theorem dL_law_1065 : decode cL_law 1065 = .ok (.istore_n 2, 1) := by decide +kernel
theorem dL_law_1066 : decode cL_law 1066 = .ok (.iinc 12 1, 3) := by decide +kernel
theorem dL_law_1069 : decode cL_law 1069 = .ok (.iinc 13 1, 3) := by decide +kernel
theorem dL_law_1072 : decode cL_law 1072 = .ok (.goto (-44), 3) := by decide +kernel
theorem dL_law_1075 : decode cL_law 1075 = .ok (.iload_n 2, 1) := by decide +kernel
theorem dL_law_1076 : decode cL_law 1076 = .ok (.iload 12, 2) := by decide +kernel
theorem dL_law_1078 : decode cL_law 1078 = .ok (.aload_n 1, 1) := by decide +kernel
theorem dL_law_1079 : decode cL_law 1079 = .ok (.iload 6, 2) := by decide +kernel
theorem dL_law_1081 : decode cL_law 1081 = .ok (.iconst 0, 1) := by decide +kernel
theorem dL_law_1082 : decode cL_law 1082 = .ok (.invokevirtual 57, 3) := by decide +kernel
theorem dL_law_1085 : decode cL_law 1085 = .ok (.ifCond .ne 13, 3) := by decide +kernel
theorem dL_law_1088 : decode cL_law 1088 = .ok (.aload_n 1, 1) := by decide +kernel
theorem dL_law_1089 : decode cL_law 1089 = .ok (.iload 6, 2) := by decide +kernel
theorem dL_law_1091 : decode cL_law 1091 = .ok (.iconst 3, 1) := by decide +kernel
theorem dL_law_1092 : decode cL_law 1092 = .ok (.invokevirtual 57, 3) := by decide +kernel
theorem dL_law_1095 : decode cL_law 1095 = .ok (.goto 4, 3) := by decide +kernel
theorem dL_law_1098 : decode cL_law 1098 = .ok (.iconst 0, 1) := by decide +kernel
theorem dL_law_1099 : decode cL_law 1099 = .ok (.if_icmp .ne 17, 3) := by decide +kernel
theorem dL_law_1102 : decode cL_law 1102 = .ok (.aload_n 1, 1) := by decide +kernel
theorem dL_law_1103 : decode cL_law 1103 = .ok (.invokestatic 94, 3) := by decide +kernel
theorem dL_law_1106 : decode cL_law 1106 = .ok (.lload 8, 2) := by decide +kernel
theorem dL_law_1108 : decode cL_law 1108 = .ok (.lcmp, 1) := by decide +kernel
theorem dL_law_1109 : decode cL_law 1109 = .ok (.ifCond .ne 7, 3) := by decide +kernel
theorem dL_law_1112 : decode cL_law 1112 = .ok (.iconst 1, 1) := by decide +kernel
theorem dL_law_1113 : decode cL_law 1113 = .ok (.goto 4, 3) := by decide +kernel
theorem dL_law_1116 : decode cL_law 1116 = .ok (.iconst 0, 1) := by decide +kernel
theorem dL_law_1117 : decode cL_law 1117 = .ok (.iand, 1) := by decide +kernel
theorem dL_law_1118 : decode cL_law 1118 = .ok (.istore_n 2, 1) := by decide +kernel
theorem dL_law_1119 : decode cL_law 1119 = .ok (.goto 97, 3) := by decide +kernel
theorem dL_law_1122 : decode cL_law 1122 = .ok (.aload_n 1, 1) := by decide +kernel
theorem dL_law_1123 : decode cL_law 1123 = .ok (.iload 6, 2) := by decide +kernel
theorem dL_law_1125 : decode cL_law 1125 = .ok (.invokevirtual 166, 3) := by decide +kernel
theorem dL_law_1128 : decode cL_law 1128 = .ok (.istore 11, 2) := by decide +kernel
theorem dL_law_1130 : decode cL_law 1130 = .ok (.iload_n 2, 1) := by decide +kernel
theorem dL_law_1131 : decode cL_law 1131 = .ok (.iload 11, 2) := by decide +kernel
theorem dL_law_1133 : decode cL_law 1133 = .ok (.bipush (-5), 2) := by decide +kernel
theorem dL_law_1135 : decode cL_law 1135 = .ok (.if_icmp .ne 7, 3) := by decide +kernel
theorem dL_law_1138 : decode cL_law 1138 = .ok (.iconst 1, 1) := by decide +kernel
theorem dL_law_1139 : decode cL_law 1139 = .ok (.goto 4, 3) := by decide +kernel
theorem dL_law_1142 : decode cL_law 1142 = .ok (.iconst 0, 1) := by decide +kernel
theorem dL_law_1143 : decode cL_law 1143 = .ok (.aload_n 1, 1) := by decide +kernel
theorem dL_law_1144 : decode cL_law 1144 = .ok (.iload 6, 2) := by decide +kernel
theorem dL_law_1146 : decode cL_law 1146 = .ok (.iconst 3, 1) := by decide +kernel
theorem dL_law_1147 : decode cL_law 1147 = .ok (.invokevirtual 57, 3) := by decide +kernel
theorem dL_law_1150 : decode cL_law 1150 = .ok (.ifCond .ne 7, 3) := by decide +kernel
theorem dL_law_1153 : decode cL_law 1153 = .ok (.iconst 1, 1) := by decide +kernel
theorem dL_law_1154 : decode cL_law 1154 = .ok (.goto 4, 3) := by decide +kernel
theorem dL_law_1157 : decode cL_law 1157 = .ok (.iconst 0, 1) := by decide +kernel
theorem dL_law_1158 : decode cL_law 1158 = .ok (.if_icmp .ne 55, 3) := by decide +kernel
theorem dL_law_1161 : decode cL_law 1161 = .ok (.iload 11, 2) := by decide +kernel
theorem dL_law_1163 : decode cL_law 1163 = .ok (.ifCond .lt 13, 3) := by decide +kernel
theorem dL_law_1166 : decode cL_law 1166 = .ok (.aload_n 1, 1) := by decide +kernel
theorem dL_law_1167 : decode cL_law 1167 = .ok (.iload 11, 2) := by decide +kernel
theorem dL_law_1169 : decode cL_law 1169 = .ok (.iconst 0, 1) := by decide +kernel
theorem dL_law_1170 : decode cL_law 1170 = .ok (.invokevirtual 53, 3) := by decide +kernel
theorem dL_law_1173 : decode cL_law 1173 = .ok (.ifCond .ne 40, 3) := by decide +kernel
theorem dL_law_1176 : decode cL_law 1176 = .ok (.aload_n 1, 1) := by decide +kernel
theorem dL_law_1177 : decode cL_law 1177 = .ok (.iload 6, 2) := by decide +kernel
theorem dL_law_1179 : decode cL_law 1179 = .ok (.iconst 0, 1) := by decide +kernel
theorem dL_law_1180 : decode cL_law 1180 = .ok (.invokevirtual 163, 3) := by decide +kernel
theorem dL_law_1183 : decode cL_law 1183 = .ok (.iconst 1, 1) := by decide +kernel
theorem dL_law_1184 : decode cL_law 1184 = .ok (.if_icmp .ne 29, 3) := by decide +kernel
theorem dL_law_1187 : decode cL_law 1187 = .ok (.aload_n 1, 1) := by decide +kernel
theorem dL_law_1188 : decode cL_law 1188 = .ok (.iload 6, 2) := by decide +kernel
theorem dL_law_1190 : decode cL_law 1190 = .ok (.iload 6, 2) := by decide +kernel
theorem dL_law_1192 : decode cL_law 1192 = .ok (.invokevirtual 163, 3) := by decide +kernel
theorem dL_law_1195 : decode cL_law 1195 = .ok (.iconst 1, 1) := by decide +kernel
theorem dL_law_1196 : decode cL_law 1196 = .ok (.if_icmp .ne 17, 3) := by decide +kernel
theorem dL_law_1199 : decode cL_law 1199 = .ok (.aload_n 1, 1) := by decide +kernel
theorem dL_law_1200 : decode cL_law 1200 = .ok (.invokestatic 94, 3) := by decide +kernel
theorem dL_law_1203 : decode cL_law 1203 = .ok (.lload 8, 2) := by decide +kernel
theorem dL_law_1205 : decode cL_law 1205 = .ok (.lcmp, 1) := by decide +kernel
theorem dL_law_1206 : decode cL_law 1206 = .ok (.ifCond .ne 7, 3) := by decide +kernel
theorem dL_law_1209 : decode cL_law 1209 = .ok (.iconst 1, 1) := by decide +kernel
theorem dL_law_1210 : decode cL_law 1210 = .ok (.goto 4, 3) := by decide +kernel
theorem dL_law_1213 : decode cL_law 1213 = .ok (.iconst 0, 1) := by decide +kernel
theorem dL_law_1214 : decode cL_law 1214 = .ok (.iand, 1) := by decide +kernel
theorem dL_law_1215 : decode cL_law 1215 = .ok (.istore_n 2, 1) := by decide +kernel
theorem dL_law_1216 : decode cL_law 1216 = .ok (.iload_n 2, 1) := by decide +kernel
theorem dL_law_1217 : decode cL_law 1217 = .ok (.iload 10, 2) := by decide +kernel
theorem dL_law_1219 : decode cL_law 1219 = .ok (.ifCond .ge 20, 3) := by decide +kernel
theorem dL_law_1222 : decode cL_law 1222 = .ok (.iload 10, 2) := by decide +kernel
theorem dL_law_1224 : decode cL_law 1224 = .ok (.bipush (-99), 2) := by decide +kernel
theorem dL_law_1226 : decode cL_law 1226 = .ok (.if_icmp .eq 13, 3) := by decide +kernel
theorem dL_law_1229 : decode cL_law 1229 = .ok (.aload_n 1, 1) := by decide +kernel
theorem dL_law_1230 : decode cL_law 1230 = .ok (.invokestatic 94, 3) := by decide +kernel
theorem dL_law_1233 : decode cL_law 1233 = .ok (.lload 8, 2) := by decide +kernel
theorem dL_law_1235 : decode cL_law 1235 = .ok (.lcmp, 1) := by decide +kernel
theorem dL_law_1236 : decode cL_law 1236 = .ok (.ifCond .ne 7, 3) := by decide +kernel
theorem dL_law_1239 : decode cL_law 1239 = .ok (.iconst 1, 1) := by decide +kernel
theorem dL_law_1240 : decode cL_law 1240 = .ok (.goto 4, 3) := by decide +kernel
theorem dL_law_1243 : decode cL_law 1243 = .ok (.iconst 0, 1) := by decide +kernel
theorem dL_law_1244 : decode cL_law 1244 = .ok (.iand, 1) := by decide +kernel
theorem dL_law_1245 : decode cL_law 1245 = .ok (.istore_n 2, 1) := by decide +kernel
theorem dL_law_1246 : decode cL_law 1246 = .ok (.iconst 0, 1) := by decide +kernel
theorem dL_law_1247 : decode cL_law 1247 = .ok (.istore 11, 2) := by decide +kernel
theorem dL_law_1249 : decode cL_law 1249 = .ok (.iload 11, 2) := by decide +kernel
theorem dL_law_1251 : decode cL_law 1251 = .ok (.aload_n 1, 1) := by decide +kernel
theorem dL_law_1252 : decode cL_law 1252 = .ok (.bipush 7, 2) := by decide +kernel
theorem dL_law_1254 : decode cL_law 1254 = .ok (.invokevirtual 43, 3) := by decide +kernel
theorem dL_law_1257 : decode cL_law 1257 = .ok (.if_icmp .ge 48, 3) := by decide +kernel
theorem dL_law_1260 : decode cL_law 1260 = .ok (.iload_n 2, 1) := by decide +kernel
theorem dL_law_1261 : decode cL_law 1261 = .ok (.aload_n 1, 1) := by decide +kernel
theorem dL_law_1262 : decode cL_law 1262 = .ok (.aload_n 1, 1) := by decide +kernel
theorem dL_law_1263 : decode cL_law 1263 = .ok (.iload 11, 2) := by decide +kernel
theorem dL_law_1265 : decode cL_law 1265 = .ok (.invokevirtual 50, 3) := by decide +kernel
theorem dL_law_1268 : decode cL_law 1268 = .ok (.iconst 2, 1) := by decide +kernel
theorem dL_law_1269 : decode cL_law 1269 = .ok (.invokevirtual 53, 3) := by decide +kernel
theorem dL_law_1272 : decode cL_law 1272 = .ok (.iload 11, 2) := by decide +kernel
theorem dL_law_1274 : decode cL_law 1274 = .ok (.if_icmp .ne 22, 3) := by decide +kernel
theorem dL_law_1277 : decode cL_law 1277 = .ok (.aload_n 1, 1) := by decide +kernel
theorem dL_law_1278 : decode cL_law 1278 = .ok (.aload_n 1, 1) := by decide +kernel
theorem dL_law_1279 : decode cL_law 1279 = .ok (.iload 11, 2) := by decide +kernel
theorem dL_law_1281 : decode cL_law 1281 = .ok (.invokevirtual 50, 3) := by decide +kernel
theorem dL_law_1284 : decode cL_law 1284 = .ok (.iconst 0, 1) := by decide +kernel
theorem dL_law_1285 : decode cL_law 1285 = .ok (.invokevirtual 53, 3) := by decide +kernel
theorem dL_law_1288 : decode cL_law 1288 = .ok (.iconst 1, 1) := by decide +kernel
theorem dL_law_1289 : decode cL_law 1289 = .ok (.if_icmp .ne 7, 3) := by decide +kernel
theorem dL_law_1292 : decode cL_law 1292 = .ok (.iconst 1, 1) := by decide +kernel
theorem dL_law_1293 : decode cL_law 1293 = .ok (.goto 4, 3) := by decide +kernel
theorem dL_law_1296 : decode cL_law 1296 = .ok (.iconst 0, 1) := by decide +kernel
theorem dL_law_1297 : decode cL_law 1297 = .ok (.iand, 1) := by decide +kernel
theorem dL_law_1298 : decode cL_law 1298 = .ok (.istore_n 2, 1) := by decide +kernel
theorem dL_law_1299 : decode cL_law 1299 = .ok (.iinc 11 1, 3) := by decide +kernel
theorem dL_law_1302 : decode cL_law 1302 = .ok (.goto (-53), 3) := by decide +kernel
theorem dL_law_1305 : decode cL_law 1305 = .ok (.iload_n 2, 1) := by decide +kernel
theorem dL_law_1306 : decode cL_law 1306 = .ok (.aload_n 1, 1) := by decide +kernel
theorem dL_law_1307 : decode cL_law 1307 = .ok (.bipush 7, 2) := by decide +kernel
theorem dL_law_1309 : decode cL_law 1309 = .ok (.invokevirtual 43, 3) := by decide +kernel
theorem dL_law_1312 : decode cL_law 1312 = .ok (.aload_n 1, 1) := by decide +kernel
theorem dL_law_1313 : decode cL_law 1313 = .ok (.iconst 3, 1) := by decide +kernel
theorem dL_law_1314 : decode cL_law 1314 = .ok (.invokevirtual 43, 3) := by decide +kernel
theorem dL_law_1317 : decode cL_law 1317 = .ok (.iadd, 1) := by decide +kernel
theorem dL_law_1318 : decode cL_law 1318 = .ok (.aload_n 1, 1) := by decide +kernel
theorem dL_law_1319 : decode cL_law 1319 = .ok (.iconst 2, 1) := by decide +kernel
theorem dL_law_1320 : decode cL_law 1320 = .ok (.invokevirtual 43, 3) := by decide +kernel
theorem dL_law_1323 : decode cL_law 1323 = .ok (.if_icmp .ne 7, 3) := by decide +kernel
theorem dL_law_1326 : decode cL_law 1326 = .ok (.iconst 1, 1) := by decide +kernel
theorem dL_law_1327 : decode cL_law 1327 = .ok (.goto 4, 3) := by decide +kernel
theorem dL_law_1330 : decode cL_law 1330 = .ok (.iconst 0, 1) := by decide +kernel
theorem dL_law_1331 : decode cL_law 1331 = .ok (.iand, 1) := by decide +kernel
theorem dL_law_1332 : decode cL_law 1332 = .ok (.istore_n 2, 1) := by decide +kernel
theorem dL_law_1333 : decode cL_law 1333 = .ok (.iload_n 2, 1) := by decide +kernel
theorem dL_law_1334 : decode cL_law 1334 = .ok (.ifCond .ne 5, 3) := by decide +kernel
theorem dL_law_1337 : decode cL_law 1337 = .ok (.iconst 0, 1) := by decide +kernel
theorem dL_law_1338 : decode cL_law 1338 = .ok (.ireturn, 1) := by decide +kernel
theorem dL_law_1339 : decode cL_law 1339 = .ok (.iinc 3 1, 3) := by decide +kernel
theorem dL_law_1342 : decode cL_law 1342 = .ok (.goto (-1330), 3) := by decide +kernel
theorem dL_law_1345 : decode cL_law 1345 = .ok (.iload_n 2, 1) := by decide +kernel
theorem dL_law_1346 : decode cL_law 1346 = .ok (.ireturn, 1) := by decide +kernel
