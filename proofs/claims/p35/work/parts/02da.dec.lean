theorem dX0_init_0 : decode cX0_init 0 = .ok (.aload_n 0, 1) := by decide +kernel
theorem dX0_init_1 : decode cX0_init 1 = .ok (.invokespecial 3, 3) := by decide +kernel
theorem dX0_init_4 : decode cX0_init 4 = .ok (.aload_n 0, 1) := by decide +kernel
theorem dX0_init_5 : decode cX0_init 5 = .ok (.new 9, 3) := by decide +kernel
theorem dX0_init_8 : decode cX0_init 8 = .ok (.dup, 1) := by decide +kernel
theorem dX0_init_9 : decode cX0_init 9 = .ok (.bipush 90, 2) := by decide +kernel
theorem dX0_init_11 : decode cX0_init 11 = .ok (.invokespecial 11, 3) := by decide +kernel
theorem dX0_init_14 : decode cX0_init 14 = .ok (.putfield 14, 3) := by decide +kernel
theorem dX0_init_17 : decode cX0_init 17 = .ok (.aload_n 0, 1) := by decide +kernel
theorem dX0_init_18 : decode cX0_init 18 = .ok (.new 9, 3) := by decide +kernel
theorem dX0_init_21 : decode cX0_init 21 = .ok (.dup, 1) := by decide +kernel
theorem dX0_init_22 : decode cX0_init 22 = .ok (.bipush 90, 2) := by decide +kernel
theorem dX0_init_24 : decode cX0_init 24 = .ok (.invokespecial 11, 3) := by decide +kernel
theorem dX0_init_27 : decode cX0_init 27 = .ok (.putfield 20, 3) := by decide +kernel
theorem dX0_init_30 : decode cX0_init 30 = .ok (.aload_n 0, 1) := by decide +kernel
theorem dX0_init_31 : decode cX0_init 31 = .ok (.new 9, 3) := by decide +kernel
theorem dX0_init_34 : decode cX0_init 34 = .ok (.dup, 1) := by decide +kernel
theorem dX0_init_35 : decode cX0_init 35 = .ok (.bipush 90, 2) := by decide +kernel
theorem dX0_init_37 : decode cX0_init 37 = .ok (.invokespecial 11, 3) := by decide +kernel
theorem dX0_init_40 : decode cX0_init 40 = .ok (.putfield 23, 3) := by decide +kernel
theorem dX0_init_43 : decode cX0_init 43 = .ok (.return_, 1) := by decide +kernel
theorem dX0_gather_0 : decode cX0_gather 0 = .ok (.aload_n 0, 1) := by decide +kernel
theorem dX0_gather_1 : decode cX0_gather 1 = .ok (.getfield 14, 3) := by decide +kernel
theorem dX0_gather_4 : decode cX0_gather 4 = .ok (.iload_n 1, 1) := by decide +kernel
theorem dX0_gather_5 : decode cX0_gather 5 = .ok (.invokevirtual 26, 3) := by decide +kernel
theorem dX0_gather_8 : decode cX0_gather 8 = .ok (.pop, 1) := by decide +kernel
theorem dX0_gather_9 : decode cX0_gather 9 = .ok (.aload_n 0, 1) := by decide +kernel
theorem dX0_gather_10 : decode cX0_gather 10 = .ok (.getfield 20, 3) := by decide +kernel
theorem dX0_gather_13 : decode cX0_gather 13 = .ok (.iload_n 2, 1) := by decide +kernel
theorem dX0_gather_14 : decode cX0_gather 14 = .ok (.invokevirtual 26, 3) := by decide +kernel
theorem dX0_gather_17 : decode cX0_gather 17 = .ok (.pop, 1) := by decide +kernel
theorem dX0_gather_18 : decode cX0_gather 18 = .ok (.aload_n 0, 1) := by decide +kernel
theorem dX0_gather_19 : decode cX0_gather 19 = .ok (.getfield 23, 3) := by decide +kernel
theorem dX0_gather_22 : decode cX0_gather 22 = .ok (.iload_n 3, 1) := by decide +kernel
theorem dX0_gather_23 : decode cX0_gather 23 = .ok (.invokevirtual 26, 3) := by decide +kernel
theorem dX0_gather_26 : decode cX0_gather 26 = .ok (.pop, 1) := by decide +kernel
theorem dX0_gather_27 : decode cX0_gather 27 = .ok (.return_, 1) := by decide +kernel
theorem dX0_beginCall_0 : decode cX0_beginCall 0 = .ok (.aload_n 0, 1) := by decide +kernel
theorem dX0_beginCall_1 : decode cX0_beginCall 1 = .ok (.aload_n 0, 1) := by decide +kernel
theorem dX0_beginCall_2 : decode cX0_beginCall 2 = .ok (.getfield 14, 3) := by decide +kernel
theorem dX0_beginCall_5 : decode cX0_beginCall 5 = .ok (.getfield 30, 3) := by decide +kernel
theorem dX0_beginCall_8 : decode cX0_beginCall 8 = .ok (.putfield 34, 3) := by decide +kernel
theorem dX0_beginCall_11 : decode cX0_beginCall 11 = .ok (.return_, 1) := by decide +kernel
theorem dX0_gatheredBy_0 : decode cX0_gatheredBy 0 = .ok (.iconst 0, 1) := by decide +kernel
theorem dX0_gatheredBy_1 : decode cX0_gatheredBy 1 = .ok (.istore_n 2, 1) := by decide +kernel
theorem dX0_gatheredBy_2 : decode cX0_gatheredBy 2 = .ok (.iload_n 1, 1) := by decide +kernel
theorem dX0_gatheredBy_3 : decode cX0_gatheredBy 3 = .ok (.iconst (-1), 1) := by decide +kernel
theorem dX0_gatheredBy_4 : decode cX0_gatheredBy 4 = .ok (.if_icmp .ne 10, 3) := by decide +kernel
theorem dX0_gatheredBy_7 : decode cX0_gatheredBy 7 = .ok (.aload_n 0, 1) := by decide +kernel
theorem dX0_gatheredBy_8 : decode cX0_gatheredBy 8 = .ok (.getfield 34, 3) := by decide +kernel
theorem dX0_gatheredBy_11 : decode cX0_gatheredBy 11 = .ok (.goto 4, 3) := by decide +kernel
theorem dX0_gatheredBy_14 : decode cX0_gatheredBy 14 = .ok (.iconst 0, 1) := by decide +kernel
theorem dX0_gatheredBy_15 : decode cX0_gatheredBy 15 = .ok (.istore_n 3, 1) := by decide +kernel
theorem dX0_gatheredBy_16 : decode cX0_gatheredBy 16 = .ok (.iload_n 3, 1) := by decide +kernel
theorem dX0_gatheredBy_17 : decode cX0_gatheredBy 17 = .ok (.aload_n 0, 1) := by decide +kernel
theorem dX0_gatheredBy_18 : decode cX0_gatheredBy 18 = .ok (.getfield 14, 3) := by decide +kernel
theorem dX0_gatheredBy_21 : decode cX0_gatheredBy 21 = .ok (.getfield 30, 3) := by decide +kernel
theorem dX0_gatheredBy_24 : decode cX0_gatheredBy 24 = .ok (.if_icmp .ge 24, 3) := by decide +kernel
theorem dX0_gatheredBy_27 : decode cX0_gatheredBy 27 = .ok (.aload_n 0, 1) := by decide +kernel
theorem dX0_gatheredBy_28 : decode cX0_gatheredBy 28 = .ok (.getfield 23, 3) := by decide +kernel
theorem dX0_gatheredBy_31 : decode cX0_gatheredBy 31 = .ok (.iload_n 3, 1) := by decide +kernel
theorem dX0_gatheredBy_32 : decode cX0_gatheredBy 32 = .ok (.invokevirtual 37, 3) := by decide +kernel
theorem dX0_gatheredBy_35 : decode cX0_gatheredBy 35 = .ok (.iload_n 1, 1) := by decide +kernel
theorem dX0_gatheredBy_36 : decode cX0_gatheredBy 36 = .ok (.if_icmp .ne 6, 3) := by decide +kernel
theorem dX0_gatheredBy_39 : decode cX0_gatheredBy 39 = .ok (.iinc 2 1, 3) := by decide +kernel
theorem dX0_gatheredBy_42 : decode cX0_gatheredBy 42 = .ok (.iinc 3 1, 3) := by decide +kernel
theorem dX0_gatheredBy_45 : decode cX0_gatheredBy 45 = .ok (.goto (-29), 3) := by decide +kernel
theorem dX0_gatheredBy_48 : decode cX0_gatheredBy 48 = .ok (.iload_n 2, 1) := by decide +kernel
theorem dX0_gatheredBy_49 : decode cX0_gatheredBy 49 = .ok (.ireturn, 1) := by decide +kernel
theorem dX0_placeOf_0 : decode cX0_placeOf 0 = .ok (.iconst 0, 1) := by decide +kernel
theorem dX0_placeOf_1 : decode cX0_placeOf 1 = .ok (.istore_n 3, 1) := by decide +kernel
theorem dX0_placeOf_2 : decode cX0_placeOf 2 = .ok (.iload_n 1, 1) := by decide +kernel
theorem dX0_placeOf_3 : decode cX0_placeOf 3 = .ok (.iconst (-1), 1) := by decide +kernel
theorem dX0_placeOf_4 : decode cX0_placeOf 4 = .ok (.if_icmp .ne 10, 3) := by decide +kernel
theorem dX0_placeOf_7 : decode cX0_placeOf 7 = .ok (.aload_n 0, 1) := by decide +kernel
theorem dX0_placeOf_8 : decode cX0_placeOf 8 = .ok (.getfield 34, 3) := by decide +kernel
theorem dX0_placeOf_11 : decode cX0_placeOf 11 = .ok (.goto 4, 3) := by decide +kernel
theorem dX0_placeOf_14 : decode cX0_placeOf 14 = .ok (.iconst 0, 1) := by decide +kernel
theorem dX0_placeOf_15 : decode cX0_placeOf 15 = .ok (.istore 4, 2) := by decide +kernel
theorem dX0_placeOf_17 : decode cX0_placeOf 17 = .ok (.iload 4, 2) := by decide +kernel
theorem dX0_placeOf_19 : decode cX0_placeOf 19 = .ok (.aload_n 0, 1) := by decide +kernel
theorem dX0_placeOf_20 : decode cX0_placeOf 20 = .ok (.getfield 14, 3) := by decide +kernel
theorem dX0_placeOf_23 : decode cX0_placeOf 23 = .ok (.getfield 30, 3) := by decide +kernel
theorem dX0_placeOf_26 : decode cX0_placeOf 26 = .ok (.if_icmp .ge 33, 3) := by decide +kernel
theorem dX0_placeOf_29 : decode cX0_placeOf 29 = .ok (.aload_n 0, 1) := by decide +kernel
theorem dX0_placeOf_30 : decode cX0_placeOf 30 = .ok (.getfield 23, 3) := by decide +kernel
theorem dX0_placeOf_33 : decode cX0_placeOf 33 = .ok (.iload 4, 2) := by decide +kernel
theorem dX0_placeOf_35 : decode cX0_placeOf 35 = .ok (.invokevirtual 37, 3) := by decide +kernel
theorem dX0_placeOf_38 : decode cX0_placeOf 38 = .ok (.iload_n 1, 1) := by decide +kernel
theorem dX0_placeOf_39 : decode cX0_placeOf 39 = .ok (.if_icmp .ne 14, 3) := by decide +kernel
theorem dX0_placeOf_42 : decode cX0_placeOf 42 = .ok (.iload_n 3, 1) := by decide +kernel
theorem dX0_placeOf_43 : decode cX0_placeOf 43 = .ok (.iload_n 2, 1) := by decide +kernel
theorem dX0_placeOf_44 : decode cX0_placeOf 44 = .ok (.if_icmp .ne 6, 3) := by decide +kernel
theorem dX0_placeOf_47 : decode cX0_placeOf 47 = .ok (.iload 4, 2) := by decide +kernel
theorem dX0_placeOf_49 : decode cX0_placeOf 49 = .ok (.ireturn, 1) := by decide +kernel
theorem dX0_placeOf_50 : decode cX0_placeOf 50 = .ok (.iinc 3 1, 3) := by decide +kernel
theorem dX0_placeOf_53 : decode cX0_placeOf 53 = .ok (.iinc 4 1, 3) := by decide +kernel
theorem dX0_placeOf_56 : decode cX0_placeOf 56 = .ok (.goto (-39), 3) := by decide +kernel
theorem dX0_placeOf_59 : decode cX0_placeOf 59 = .ok (.iconst (-1), 1) := by decide +kernel
theorem dX0_placeOf_60 : decode cX0_placeOf 60 = .ok (.ireturn, 1) := by decide +kernel
theorem dX0_become_0 : decode cX0_become 0 = .ok (.aload_n 0, 1) := by decide +kernel
theorem dX0_become_1 : decode cX0_become 1 = .ok (.getfield 14, 3) := by decide +kernel
theorem dX0_become_4 : decode cX0_become 4 = .ok (.aload_n 1, 1) := by decide +kernel
theorem dX0_become_5 : decode cX0_become 5 = .ok (.getfield 14, 3) := by decide +kernel
theorem dX0_become_8 : decode cX0_become 8 = .ok (.invokevirtual 41, 3) := by decide +kernel
theorem dX0_become_11 : decode cX0_become 11 = .ok (.aload_n 0, 1) := by decide +kernel
theorem dX0_become_12 : decode cX0_become 12 = .ok (.getfield 20, 3) := by decide +kernel
theorem dX0_become_15 : decode cX0_become 15 = .ok (.aload_n 1, 1) := by decide +kernel
theorem dX0_become_16 : decode cX0_become 16 = .ok (.getfield 20, 3) := by decide +kernel
theorem dX0_become_19 : decode cX0_become 19 = .ok (.invokevirtual 41, 3) := by decide +kernel
theorem dX0_become_22 : decode cX0_become 22 = .ok (.aload_n 0, 1) := by decide +kernel
theorem dX0_become_23 : decode cX0_become 23 = .ok (.getfield 23, 3) := by decide +kernel
theorem dX0_become_26 : decode cX0_become 26 = .ok (.aload_n 1, 1) := by decide +kernel
theorem dX0_become_27 : decode cX0_become 27 = .ok (.getfield 23, 3) := by decide +kernel
theorem dX0_become_30 : decode cX0_become 30 = .ok (.invokevirtual 41, 3) := by decide +kernel
theorem dX0_become_33 : decode cX0_become 33 = .ok (.aload_n 0, 1) := by decide +kernel
theorem dX0_become_34 : decode cX0_become 34 = .ok (.aload_n 1, 1) := by decide +kernel
theorem dX0_become_35 : decode cX0_become 35 = .ok (.getfield 34, 3) := by decide +kernel
theorem dX0_become_38 : decode cX0_become 38 = .ok (.putfield 34, 3) := by decide +kernel
theorem dX0_become_41 : decode cX0_become 41 = .ok (.return_, 1) := by decide +kernel
theorem dX1_init_0 : decode cX1_init 0 = .ok (.aload_n 0, 1) := by decide +kernel
theorem dX1_init_1 : decode cX1_init 1 = .ok (.invokespecial 1, 3) := by decide +kernel
theorem dX1_init_4 : decode cX1_init 4 = .ok (.aload_n 0, 1) := by decide +kernel
theorem dX1_init_5 : decode cX1_init 5 = .ok (.iload_n 1, 1) := by decide +kernel
theorem dX1_init_6 : decode cX1_init 6 = .ok (.ifCond .ge 7, 3) := by decide +kernel
theorem dX1_init_13 : decode cX1_init 13 = .ok (.iload_n 1, 1) := by decide +kernel
theorem dX1_init_14 : decode cX1_init 14 = .ok (.newarray .int, 2) := by decide +kernel
theorem dX1_init_16 : decode cX1_init 16 = .ok (.putfield 7, 3) := by decide +kernel
theorem dX1_init_19 : decode cX1_init 19 = .ok (.return_, 1) := by decide +kernel
theorem dX1_has_0 : decode cX1_has 0 = .ok (.iload_n 1, 1) := by decide +kernel
theorem dX1_has_1 : decode cX1_has 1 = .ok (.ifCond .lt 24, 3) := by decide +kernel
theorem dX1_has_4 : decode cX1_has 4 = .ok (.iload_n 1, 1) := by decide +kernel
theorem dX1_has_5 : decode cX1_has 5 = .ok (.aload_n 0, 1) := by decide +kernel
theorem dX1_has_6 : decode cX1_has 6 = .ok (.getfield 13, 3) := by decide +kernel
theorem dX1_has_9 : decode cX1_has 9 = .ok (.if_icmp .ge 16, 3) := by decide +kernel
theorem dX1_has_12 : decode cX1_has 12 = .ok (.iload_n 1, 1) := by decide +kernel
theorem dX1_has_13 : decode cX1_has 13 = .ok (.aload_n 0, 1) := by decide +kernel
theorem dX1_has_14 : decode cX1_has 14 = .ok (.getfield 7, 3) := by decide +kernel
theorem dX1_has_17 : decode cX1_has 17 = .ok (.arraylength, 1) := by decide +kernel
theorem dX1_has_18 : decode cX1_has 18 = .ok (.if_icmp .ge 7, 3) := by decide +kernel
theorem dX1_has_21 : decode cX1_has 21 = .ok (.iconst 1, 1) := by decide +kernel
theorem dX1_has_22 : decode cX1_has 22 = .ok (.goto 4, 3) := by decide +kernel
theorem dX1_has_25 : decode cX1_has 25 = .ok (.iconst 0, 1) := by decide +kernel
theorem dX1_has_26 : decode cX1_has 26 = .ok (.ireturn, 1) := by decide +kernel
theorem dX1_hasRange_0 : decode cX1_hasRange 0 = .ok (.iload_n 1, 1) := by decide +kernel
theorem dX1_hasRange_1 : decode cX1_hasRange 1 = .ok (.ifCond .lt 41, 3) := by decide +kernel
theorem dX1_hasRange_4 : decode cX1_hasRange 4 = .ok (.iload_n 2, 1) := by decide +kernel
theorem dX1_hasRange_5 : decode cX1_hasRange 5 = .ok (.ifCond .lt 37, 3) := by decide +kernel
theorem dX1_hasRange_8 : decode cX1_hasRange 8 = .ok (.iload_n 1, 1) := by decide +kernel
theorem dX1_hasRange_9 : decode cX1_hasRange 9 = .ok (.aload_n 0, 1) := by decide +kernel
theorem dX1_hasRange_10 : decode cX1_hasRange 10 = .ok (.getfield 13, 3) := by decide +kernel
theorem dX1_hasRange_13 : decode cX1_hasRange 13 = .ok (.if_icmp .gt 29, 3) := by decide +kernel
theorem dX1_hasRange_16 : decode cX1_hasRange 16 = .ok (.iload_n 2, 1) := by decide +kernel
theorem dX1_hasRange_17 : decode cX1_hasRange 17 = .ok (.aload_n 0, 1) := by decide +kernel
theorem dX1_hasRange_18 : decode cX1_hasRange 18 = .ok (.getfield 13, 3) := by decide +kernel
theorem dX1_hasRange_21 : decode cX1_hasRange 21 = .ok (.iload_n 1, 1) := by decide +kernel
theorem dX1_hasRange_22 : decode cX1_hasRange 22 = .ok (.isub, 1) := by decide +kernel
theorem dX1_hasRange_23 : decode cX1_hasRange 23 = .ok (.if_icmp .gt 19, 3) := by decide +kernel
theorem dX1_hasRange_26 : decode cX1_hasRange 26 = .ok (.aload_n 0, 1) := by decide +kernel
theorem dX1_hasRange_27 : decode cX1_hasRange 27 = .ok (.getfield 13, 3) := by decide +kernel
theorem dX1_hasRange_30 : decode cX1_hasRange 30 = .ok (.aload_n 0, 1) := by decide +kernel
theorem dX1_hasRange_31 : decode cX1_hasRange 31 = .ok (.getfield 7, 3) := by decide +kernel
theorem dX1_hasRange_34 : decode cX1_hasRange 34 = .ok (.arraylength, 1) := by decide +kernel
theorem dX1_hasRange_35 : decode cX1_hasRange 35 = .ok (.if_icmp .gt 7, 3) := by decide +kernel
theorem dX1_hasRange_38 : decode cX1_hasRange 38 = .ok (.iconst 1, 1) := by decide +kernel
theorem dX1_hasRange_39 : decode cX1_hasRange 39 = .ok (.goto 4, 3) := by decide +kernel
theorem dX1_hasRange_42 : decode cX1_hasRange 42 = .ok (.iconst 0, 1) := by decide +kernel
theorem dX1_hasRange_43 : decode cX1_hasRange 43 = .ok (.ireturn, 1) := by decide +kernel
theorem dX1_at_0 : decode cX1_at 0 = .ok (.aload_n 0, 1) := by decide +kernel
theorem dX1_at_1 : decode cX1_at 1 = .ok (.iload_n 1, 1) := by decide +kernel
theorem dX1_at_2 : decode cX1_at 2 = .ok (.invokevirtual 17, 3) := by decide +kernel
theorem dX1_at_5 : decode cX1_at 5 = .ok (.ifCond .eq 12, 3) := by decide +kernel
theorem dX1_at_8 : decode cX1_at 8 = .ok (.aload_n 0, 1) := by decide +kernel
theorem dX1_at_9 : decode cX1_at 9 = .ok (.getfield 7, 3) := by decide +kernel
theorem dX1_at_12 : decode cX1_at 12 = .ok (.iload_n 1, 1) := by decide +kernel
theorem dX1_at_13 : decode cX1_at 13 = .ok (.iaload, 1) := by decide +kernel
theorem dX1_at_14 : decode cX1_at 14 = .ok (.goto 4, 3) := by decide +kernel
theorem dX1_at_17 : decode cX1_at 17 = .ok (.iconst 0, 1) := by decide +kernel
theorem dX1_at_18 : decode cX1_at 18 = .ok (.ireturn, 1) := by decide +kernel
theorem dX1_put_0 : decode cX1_put 0 = .ok (.aload_n 0, 1) := by decide +kernel
theorem dX1_put_1 : decode cX1_put 1 = .ok (.iload_n 1, 1) := by decide +kernel
theorem dX1_put_2 : decode cX1_put 2 = .ok (.invokevirtual 17, 3) := by decide +kernel
theorem dX1_put_5 : decode cX1_put 5 = .ok (.ifCond .eq 10, 3) := by decide +kernel
theorem dX1_put_8 : decode cX1_put 8 = .ok (.aload_n 0, 1) := by decide +kernel
theorem dX1_put_9 : decode cX1_put 9 = .ok (.getfield 7, 3) := by decide +kernel
theorem dX1_put_12 : decode cX1_put 12 = .ok (.iload_n 1, 1) := by decide +kernel
theorem dX1_put_13 : decode cX1_put 13 = .ok (.iload_n 2, 1) := by decide +kernel
theorem dX1_put_14 : decode cX1_put 14 = .ok (.iastore, 1) := by decide +kernel
theorem dX1_put_15 : decode cX1_put 15 = .ok (.return_, 1) := by decide +kernel
theorem dX1_append_0 : decode cX1_append 0 = .ok (.aload_n 0, 1) := by decide +kernel
theorem dX1_append_1 : decode cX1_append 1 = .ok (.getfield 13, 3) := by decide +kernel
theorem dX1_append_4 : decode cX1_append 4 = .ok (.ifCond .lt 15, 3) := by decide +kernel
theorem dX1_append_7 : decode cX1_append 7 = .ok (.aload_n 0, 1) := by decide +kernel
theorem dX1_append_8 : decode cX1_append 8 = .ok (.getfield 13, 3) := by decide +kernel
theorem dX1_append_11 : decode cX1_append 11 = .ok (.aload_n 0, 1) := by decide +kernel
theorem dX1_append_12 : decode cX1_append 12 = .ok (.getfield 7, 3) := by decide +kernel
theorem dX1_append_15 : decode cX1_append 15 = .ok (.arraylength, 1) := by decide +kernel
theorem dX1_append_16 : decode cX1_append 16 = .ok (.if_icmp .lt 5, 3) := by decide +kernel
theorem dX1_append_19 : decode cX1_append 19 = .ok (.iconst 0, 1) := by decide +kernel
theorem dX1_append_20 : decode cX1_append 20 = .ok (.ireturn, 1) := by decide +kernel
theorem dX1_append_21 : decode cX1_append 21 = .ok (.aload_n 0, 1) := by decide +kernel
theorem dX1_append_22 : decode cX1_append 22 = .ok (.getfield 7, 3) := by decide +kernel
theorem dX1_append_25 : decode cX1_append 25 = .ok (.aload_n 0, 1) := by decide +kernel
theorem dX1_append_26 : decode cX1_append 26 = .ok (.getfield 13, 3) := by decide +kernel
theorem dX1_append_29 : decode cX1_append 29 = .ok (.iload_n 1, 1) := by decide +kernel
theorem dX1_append_30 : decode cX1_append 30 = .ok (.iastore, 1) := by decide +kernel
theorem dX1_append_31 : decode cX1_append 31 = .ok (.aload_n 0, 1) := by decide +kernel
theorem dX1_append_32 : decode cX1_append 32 = .ok (.dup, 1) := by decide +kernel
theorem dX1_append_33 : decode cX1_append 33 = .ok (.getfield 13, 3) := by decide +kernel
theorem dX1_append_36 : decode cX1_append 36 = .ok (.iconst 1, 1) := by decide +kernel
theorem dX1_append_37 : decode cX1_append 37 = .ok (.iadd, 1) := by decide +kernel
theorem dX1_append_38 : decode cX1_append 38 = .ok (.putfield 13, 3) := by decide +kernel
theorem dX1_append_41 : decode cX1_append 41 = .ok (.iconst 1, 1) := by decide +kernel
theorem dX1_append_42 : decode cX1_append 42 = .ok (.ireturn, 1) := by decide +kernel
theorem dX1_drop_0 : decode cX1_drop 0 = .ok (.iconst 0, 1) := by decide +kernel
theorem dX1_drop_1 : decode cX1_drop 1 = .ok (.istore_n 2, 1) := by decide +kernel
theorem dX1_drop_2 : decode cX1_drop 2 = .ok (.iconst 0, 1) := by decide +kernel
theorem dX1_drop_3 : decode cX1_drop 3 = .ok (.istore_n 3, 1) := by decide +kernel
theorem dX1_drop_4 : decode cX1_drop 4 = .ok (.iload_n 3, 1) := by decide +kernel
theorem dX1_drop_5 : decode cX1_drop 5 = .ok (.aload_n 0, 1) := by decide +kernel
theorem dX1_drop_6 : decode cX1_drop 6 = .ok (.getfield 13, 3) := by decide +kernel
theorem dX1_drop_9 : decode cX1_drop 9 = .ok (.if_icmp .ge 43, 3) := by decide +kernel
theorem dX1_drop_12 : decode cX1_drop 12 = .ok (.iload_n 3, 1) := by decide +kernel
theorem dX1_drop_13 : decode cX1_drop 13 = .ok (.aload_n 0, 1) := by decide +kernel
theorem dX1_drop_14 : decode cX1_drop 14 = .ok (.getfield 7, 3) := by decide +kernel
theorem dX1_drop_17 : decode cX1_drop 17 = .ok (.arraylength, 1) := by decide +kernel
theorem dX1_drop_18 : decode cX1_drop 18 = .ok (.if_icmp .ge 34, 3) := by decide +kernel
theorem dX1_drop_21 : decode cX1_drop 21 = .ok (.aload_n 0, 1) := by decide +kernel
theorem dX1_drop_22 : decode cX1_drop 22 = .ok (.getfield 7, 3) := by decide +kernel
theorem dX1_drop_25 : decode cX1_drop 25 = .ok (.iload_n 3, 1) := by decide +kernel
theorem dX1_drop_26 : decode cX1_drop 26 = .ok (.iaload, 1) := by decide +kernel
theorem dX1_drop_27 : decode cX1_drop 27 = .ok (.iload_n 1, 1) := by decide +kernel
theorem dX1_drop_28 : decode cX1_drop 28 = .ok (.if_icmp .eq 18, 3) := by decide +kernel
theorem dX1_drop_31 : decode cX1_drop 31 = .ok (.aload_n 0, 1) := by decide +kernel
theorem dX1_drop_32 : decode cX1_drop 32 = .ok (.getfield 7, 3) := by decide +kernel
theorem dX1_drop_35 : decode cX1_drop 35 = .ok (.iload_n 2, 1) := by decide +kernel
theorem dX1_drop_36 : decode cX1_drop 36 = .ok (.aload_n 0, 1) := by decide +kernel
theorem dX1_drop_37 : decode cX1_drop 37 = .ok (.getfield 7, 3) := by decide +kernel
theorem dX1_drop_40 : decode cX1_drop 40 = .ok (.iload_n 3, 1) := by decide +kernel
theorem dX1_drop_41 : decode cX1_drop 41 = .ok (.iaload, 1) := by decide +kernel
theorem dX1_drop_42 : decode cX1_drop 42 = .ok (.iastore, 1) := by decide +kernel
theorem dX1_drop_43 : decode cX1_drop 43 = .ok (.iinc 2 1, 3) := by decide +kernel
theorem dX1_drop_46 : decode cX1_drop 46 = .ok (.iinc 3 1, 3) := by decide +kernel
theorem dX1_drop_49 : decode cX1_drop 49 = .ok (.goto (-45), 3) := by decide +kernel
theorem dX1_drop_52 : decode cX1_drop 52 = .ok (.aload_n 0, 1) := by decide +kernel
theorem dX1_drop_53 : decode cX1_drop 53 = .ok (.iload_n 2, 1) := by decide +kernel
theorem dX1_drop_54 : decode cX1_drop 54 = .ok (.putfield 13, 3) := by decide +kernel
theorem dX1_drop_57 : decode cX1_drop 57 = .ok (.return_, 1) := by decide +kernel
theorem dX1_becomeZeros_0 : decode cX1_becomeZeros 0 = .ok (.aload_n 0, 1) := by decide +kernel
theorem dX1_becomeZeros_1 : decode cX1_becomeZeros 1 = .ok (.iload_n 1, 1) := by decide +kernel
theorem dX1_becomeZeros_2 : decode cX1_becomeZeros 2 = .ok (.ifCond .lt 12, 3) := by decide +kernel
theorem dX1_becomeZeros_5 : decode cX1_becomeZeros 5 = .ok (.iload_n 1, 1) := by decide +kernel
theorem dX1_becomeZeros_6 : decode cX1_becomeZeros 6 = .ok (.aload_n 0, 1) := by decide +kernel
theorem dX1_becomeZeros_7 : decode cX1_becomeZeros 7 = .ok (.getfield 7, 3) := by decide +kernel
theorem dX1_becomeZeros_10 : decode cX1_becomeZeros 10 = .ok (.arraylength, 1) := by decide +kernel
theorem dX1_becomeZeros_11 : decode cX1_becomeZeros 11 = .ok (.if_icmp .le 7, 3) := by decide +kernel
theorem dX1_becomeZeros_14 : decode cX1_becomeZeros 14 = .ok (.iconst 0, 1) := by decide +kernel
theorem dX1_becomeZeros_15 : decode cX1_becomeZeros 15 = .ok (.goto 4, 3) := by decide +kernel
theorem dX1_becomeZeros_18 : decode cX1_becomeZeros 18 = .ok (.iload_n 1, 1) := by decide +kernel
theorem dX1_becomeZeros_19 : decode cX1_becomeZeros 19 = .ok (.putfield 13, 3) := by decide +kernel
theorem dX1_becomeZeros_22 : decode cX1_becomeZeros 22 = .ok (.iconst 0, 1) := by decide +kernel
theorem dX1_becomeZeros_23 : decode cX1_becomeZeros 23 = .ok (.istore_n 2, 1) := by decide +kernel
theorem dX1_becomeZeros_24 : decode cX1_becomeZeros 24 = .ok (.iload_n 2, 1) := by decide +kernel
theorem dX1_becomeZeros_25 : decode cX1_becomeZeros 25 = .ok (.aload_n 0, 1) := by decide +kernel
theorem dX1_becomeZeros_26 : decode cX1_becomeZeros 26 = .ok (.getfield 13, 3) := by decide +kernel
theorem dX1_becomeZeros_29 : decode cX1_becomeZeros 29 = .ok (.if_icmp .ge 16, 3) := by decide +kernel
theorem dX1_becomeZeros_32 : decode cX1_becomeZeros 32 = .ok (.aload_n 0, 1) := by decide +kernel
theorem dX1_becomeZeros_33 : decode cX1_becomeZeros 33 = .ok (.getfield 7, 3) := by decide +kernel
theorem dX1_becomeZeros_36 : decode cX1_becomeZeros 36 = .ok (.iload_n 2, 1) := by decide +kernel
theorem dX1_becomeZeros_37 : decode cX1_becomeZeros 37 = .ok (.iconst 0, 1) := by decide +kernel
theorem dX1_becomeZeros_38 : decode cX1_becomeZeros 38 = .ok (.iastore, 1) := by decide +kernel
theorem dX1_becomeZeros_39 : decode cX1_becomeZeros 39 = .ok (.iinc 2 1, 3) := by decide +kernel
theorem dX1_becomeZeros_42 : decode cX1_becomeZeros 42 = .ok (.goto (-18), 3) := by decide +kernel
theorem dX1_becomeZeros_45 : decode cX1_becomeZeros 45 = .ok (.return_, 1) := by decide +kernel
theorem dX1_become_0 : decode cX1_become 0 = .ok (.aload_n 0, 1) := by decide +kernel
theorem dX1_become_1 : decode cX1_become 1 = .ok (.aload_n 1, 1) := by decide +kernel
theorem dX1_become_2 : decode cX1_become 2 = .ok (.getfield 13, 3) := by decide +kernel
theorem dX1_become_5 : decode cX1_become 5 = .ok (.aload_n 0, 1) := by decide +kernel
theorem dX1_become_6 : decode cX1_become 6 = .ok (.getfield 7, 3) := by decide +kernel
theorem dX1_become_9 : decode cX1_become 9 = .ok (.arraylength, 1) := by decide +kernel
theorem dX1_become_10 : decode cX1_become 10 = .ok (.if_icmp .ge 10, 3) := by decide +kernel
theorem dX1_become_13 : decode cX1_become 13 = .ok (.aload_n 1, 1) := by decide +kernel
theorem dX1_become_14 : decode cX1_become 14 = .ok (.getfield 13, 3) := by decide +kernel
theorem dX1_become_17 : decode cX1_become 17 = .ok (.goto 8, 3) := by decide +kernel
theorem dX1_become_20 : decode cX1_become 20 = .ok (.aload_n 0, 1) := by decide +kernel
theorem dX1_become_21 : decode cX1_become 21 = .ok (.getfield 7, 3) := by decide +kernel
theorem dX1_become_24 : decode cX1_become 24 = .ok (.arraylength, 1) := by decide +kernel
theorem dX1_become_25 : decode cX1_become 25 = .ok (.putfield 13, 3) := by decide +kernel
theorem dX1_become_28 : decode cX1_become 28 = .ok (.iconst 0, 1) := by decide +kernel
theorem dX1_become_29 : decode cX1_become 29 = .ok (.istore_n 2, 1) := by decide +kernel
theorem dX1_become_30 : decode cX1_become 30 = .ok (.iload_n 2, 1) := by decide +kernel
theorem dX1_become_31 : decode cX1_become 31 = .ok (.aload_n 0, 1) := by decide +kernel
theorem dX1_become_32 : decode cX1_become 32 = .ok (.getfield 13, 3) := by decide +kernel
theorem dX1_become_35 : decode cX1_become 35 = .ok (.if_icmp .ge 30, 3) := by decide +kernel
theorem dX1_become_38 : decode cX1_become 38 = .ok (.iload_n 2, 1) := by decide +kernel
theorem dX1_become_39 : decode cX1_become 39 = .ok (.aload_n 1, 1) := by decide +kernel
theorem dX1_become_40 : decode cX1_become 40 = .ok (.getfield 7, 3) := by decide +kernel
theorem dX1_become_43 : decode cX1_become 43 = .ok (.arraylength, 1) := by decide +kernel
theorem dX1_become_44 : decode cX1_become 44 = .ok (.if_icmp .ge 21, 3) := by decide +kernel
theorem dX1_become_47 : decode cX1_become 47 = .ok (.aload_n 0, 1) := by decide +kernel
theorem dX1_become_48 : decode cX1_become 48 = .ok (.getfield 7, 3) := by decide +kernel
theorem dX1_become_51 : decode cX1_become 51 = .ok (.iload_n 2, 1) := by decide +kernel
theorem dX1_become_52 : decode cX1_become 52 = .ok (.aload_n 1, 1) := by decide +kernel
theorem dX1_become_53 : decode cX1_become 53 = .ok (.getfield 7, 3) := by decide +kernel
theorem dX1_become_56 : decode cX1_become 56 = .ok (.iload_n 2, 1) := by decide +kernel
theorem dX1_become_57 : decode cX1_become 57 = .ok (.iaload, 1) := by decide +kernel
theorem dX1_become_58 : decode cX1_become 58 = .ok (.iastore, 1) := by decide +kernel
theorem dX1_become_59 : decode cX1_become 59 = .ok (.iinc 2 1, 3) := by decide +kernel
theorem dX1_become_62 : decode cX1_become 62 = .ok (.goto (-32), 3) := by decide +kernel
theorem dX1_become_65 : decode cX1_become 65 = .ok (.return_, 1) := by decide +kernel
theorem dX2_init_0 : decode cX2_init 0 = .ok (.aload_n 0, 1) := by decide +kernel
theorem dX2_init_1 : decode cX2_init 1 = .ok (.invokespecial 3, 3) := by decide +kernel
theorem dX2_init_4 : decode cX2_init 4 = .ok (.aload_n 0, 1) := by decide +kernel
theorem dX2_init_5 : decode cX2_init 5 = .ok (.new 9, 3) := by decide +kernel
theorem dX2_init_8 : decode cX2_init 8 = .ok (.dup, 1) := by decide +kernel
theorem dX2_init_9 : decode cX2_init 9 = .ok (.bipush 120, 2) := by decide +kernel
theorem dX2_init_11 : decode cX2_init 11 = .ok (.invokespecial 11, 3) := by decide +kernel
theorem dX2_init_14 : decode cX2_init 14 = .ok (.putfield 14, 3) := by decide +kernel
theorem dX2_init_17 : decode cX2_init 17 = .ok (.return_, 1) := by decide +kernel
theorem dX2_readThing_0 : decode cX2_readThing 0 = .ok (.aload_n 0, 1) := by decide +kernel
theorem dX2_readThing_4 : decode cX2_readThing 4 = .ok (.new 23, 3) := by decide +kernel
theorem dX2_readThing_7 : decode cX2_readThing 7 = .ok (.dup, 1) := by decide +kernel
theorem dX2_readThing_8 : decode cX2_readThing 8 = .ok (.bipush 97, 2) := by decide +kernel
theorem dX2_readThing_10 : decode cX2_readThing 10 = .ok (.invokespecial 25, 3) := by decide +kernel
theorem dX2_readThing_13 : decode cX2_readThing 13 = .ok (.astore_n 1, 1) := by decide +kernel
theorem dX2_readThing_14 : decode cX2_readThing 14 = .ok (.aload_n 1, 1) := by decide +kernel
theorem dX2_readThing_15 : decode cX2_readThing 15 = .ok (.aload_n 0, 1) := by decide +kernel
theorem dX2_readThing_16 : decode cX2_readThing 16 = .ok (.invokevirtual 26, 3) := by decide +kernel
theorem dX2_readThing_19 : decode cX2_readThing 19 = .ok (.putfield 30, 3) := by decide +kernel
theorem dX2_readThing_22 : decode cX2_readThing 22 = .ok (.aload_n 0, 1) := by decide +kernel
theorem dX2_readThing_23 : decode cX2_readThing 23 = .ok (.invokevirtual 34, 3) := by decide +kernel
theorem dX2_readThing_26 : decode cX2_readThing 26 = .ok (.iconst (-1), 1) := by decide +kernel
theorem dX2_readThing_27 : decode cX2_readThing 27 = .ok (.if_icmp .eq 19, 3) := by decide +kernel
theorem dX2_readThing_30 : decode cX2_readThing 30 = .ok (.aload_n 0, 1) := by decide +kernel
theorem dX2_readThing_31 : decode cX2_readThing 31 = .ok (.bipush 61, 2) := by decide +kernel
theorem dX2_readThing_33 : decode cX2_readThing 33 = .ok (.invokevirtual 38, 3) := by decide +kernel
theorem dX2_readThing_36 : decode cX2_readThing 36 = .ok (.aload_n 1, 1) := by decide +kernel
theorem dX2_readThing_37 : decode cX2_readThing 37 = .ok (.aload_n 0, 1) := by decide +kernel
theorem dX2_readThing_38 : decode cX2_readThing 38 = .ok (.iconst 1, 1) := by decide +kernel
theorem dX2_readThing_39 : decode cX2_readThing 39 = .ok (.iconst (-1), 1) := by decide +kernel
theorem dX2_readThing_40 : decode cX2_readThing 40 = .ok (.invokevirtual 41, 3) := by decide +kernel
theorem dX2_readThing_43 : decode cX2_readThing 43 = .ok (.putfield 45, 3) := by decide +kernel
theorem dX2_readThing_46 : decode cX2_readThing 46 = .ok (.aload_n 0, 1) := by decide +kernel
theorem dX2_readThing_47 : decode cX2_readThing 47 = .ok (.getfield 49, 3) := by decide +kernel
theorem dX2_readThing_50 : decode cX2_readThing 50 = .ok (.ifCond .ge 7, 3) := by decide +kernel
theorem dX2_readThing_53 : decode cX2_readThing 53 = .ok (.aload_n 1, 1) := by decide +kernel
theorem dX2_readThing_54 : decode cX2_readThing 54 = .ok (.goto 4, 3) := by decide +kernel
theorem dX2_readThing_57 : decode cX2_readThing 57 = .ok (.aconst_null, 1) := by decide +kernel
theorem dX2_readThing_58 : decode cX2_readThing 58 = .ok (.areturn, 1) := by decide +kernel
theorem dX2_readTask_0 : decode cX2_readTask 0 = .ok (.aload_n 0, 1) := by decide +kernel
theorem dX2_readTask_1 : decode cX2_readTask 1 = .ok (.invokevirtual 20, 3) := by decide +kernel
theorem dX2_readTask_4 : decode cX2_readTask 4 = .ok (.aload_n 0, 1) := by decide +kernel
theorem dX2_readTask_5 : decode cX2_readTask 5 = .ok (.iconst 0, 1) := by decide +kernel
theorem dX2_readTask_6 : decode cX2_readTask 6 = .ok (.iconst (-1), 1) := by decide +kernel
theorem dX2_readTask_7 : decode cX2_readTask 7 = .ok (.invokevirtual 41, 3) := by decide +kernel
theorem dX2_readTask_10 : decode cX2_readTask 10 = .ok (.astore_n 1, 1) := by decide +kernel
theorem dX2_readTask_11 : decode cX2_readTask 11 = .ok (.aload_n 0, 1) := by decide +kernel
theorem dX2_readTask_12 : decode cX2_readTask 12 = .ok (.getfield 49, 3) := by decide +kernel
theorem dX2_readTask_15 : decode cX2_readTask 15 = .ok (.ifCond .ge 7, 3) := by decide +kernel
theorem dX2_readTask_18 : decode cX2_readTask 18 = .ok (.aload_n 1, 1) := by decide +kernel
theorem dX2_readTask_19 : decode cX2_readTask 19 = .ok (.goto 4, 3) := by decide +kernel
theorem dX2_readTask_22 : decode cX2_readTask 22 = .ok (.aconst_null, 1) := by decide +kernel
theorem dX2_readTask_23 : decode cX2_readTask 23 = .ok (.areturn, 1) := by decide +kernel
theorem dX2_readWholeName_0 : decode cX2_readWholeName 0 = .ok (.aload_n 0, 1) := by decide +kernel
theorem dX2_readWholeName_1 : decode cX2_readWholeName 1 = .ok (.invokevirtual 20, 3) := by decide +kernel
theorem dX2_readWholeName_4 : decode cX2_readWholeName 4 = .ok (.aload_n 0, 1) := by decide +kernel
theorem dX2_readWholeName_5 : decode cX2_readWholeName 5 = .ok (.invokevirtual 26, 3) := by decide +kernel
theorem dX2_readWholeName_8 : decode cX2_readWholeName 8 = .ok (.lstore_n 1, 1) := by decide +kernel
theorem dX2_readWholeName_9 : decode cX2_readWholeName 9 = .ok (.aload_n 0, 1) := by decide +kernel
theorem dX2_readWholeName_10 : decode cX2_readWholeName 10 = .ok (.invokevirtual 34, 3) := by decide +kernel
theorem dX2_readWholeName_13 : decode cX2_readWholeName 13 = .ok (.iconst (-1), 1) := by decide +kernel
theorem dX2_readWholeName_14 : decode cX2_readWholeName 14 = .ok (.if_icmp .eq 11, 3) := by decide +kernel
theorem dX2_readWholeName_17 : decode cX2_readWholeName 17 = .ok (.aload_n 0, 1) := by decide +kernel
theorem dX2_readWholeName_18 : decode cX2_readWholeName 18 = .ok (.aload_n 0, 1) := by decide +kernel
theorem dX2_readWholeName_19 : decode cX2_readWholeName 19 = .ok (.getfield 53, 3) := by decide +kernel
theorem dX2_readWholeName_22 : decode cX2_readWholeName 22 = .ok (.invokevirtual 56, 3) := by decide +kernel
theorem dX2_readWholeName_25 : decode cX2_readWholeName 25 = .ok (.lload_n 1, 1) := by decide +kernel
theorem dX2_readWholeName_26 : decode cX2_readWholeName 26 = .ok (.lreturn, 1) := by decide +kernel
theorem dX2_begin_0 : decode cX2_begin 0 = .ok (.aload_n 0, 1) := by decide +kernel
theorem dX2_begin_1 : decode cX2_begin 1 = .ok (.iconst 0, 1) := by decide +kernel
theorem dX2_begin_2 : decode cX2_begin 2 = .ok (.putfield 53, 3) := by decide +kernel
theorem dX2_begin_5 : decode cX2_begin 5 = .ok (.aload_n 0, 1) := by decide +kernel
theorem dX2_begin_6 : decode cX2_begin 6 = .ok (.iconst (-1), 1) := by decide +kernel
theorem dX2_begin_7 : decode cX2_begin 7 = .ok (.putfield 49, 3) := by decide +kernel
theorem dX2_begin_10 : decode cX2_begin 10 = .ok (.aload_n 0, 1) := by decide +kernel
theorem dX2_begin_11 : decode cX2_begin 11 = .ok (.iconst 0, 1) := by decide +kernel
theorem dX2_begin_12 : decode cX2_begin 12 = .ok (.putfield 59, 3) := by decide +kernel
theorem dX2_begin_15 : decode cX2_begin 15 = .ok (.return_, 1) := by decide +kernel
theorem dX2_here_0 : decode cX2_here 0 = .ok (.aload_n 0, 1) := by decide +kernel
theorem dX2_here_1 : decode cX2_here 1 = .ok (.getfield 53, 3) := by decide +kernel
theorem dX2_here_4 : decode cX2_here 4 = .ok (.ifCond .lt 36, 3) := by decide +kernel
theorem dX2_here_7 : decode cX2_here 7 = .ok (.aload_n 0, 1) := by decide +kernel
theorem dX2_here_8 : decode cX2_here 8 = .ok (.getfield 53, 3) := by decide +kernel
theorem dX2_here_11 : decode cX2_here 11 = .ok (.aload_n 0, 1) := by decide +kernel
theorem dX2_here_12 : decode cX2_here 12 = .ok (.getfield 14, 3) := by decide +kernel
theorem dX2_here_15 : decode cX2_here 15 = .ok (.getfield 62, 3) := by decide +kernel
theorem dX2_here_18 : decode cX2_here 18 = .ok (.if_icmp .ge 22, 3) := by decide +kernel
theorem dX2_here_21 : decode cX2_here 21 = .ok (.aload_n 0, 1) := by decide +kernel
theorem dX2_here_22 : decode cX2_here 22 = .ok (.getfield 53, 3) := by decide +kernel
theorem dX2_here_25 : decode cX2_here 25 = .ok (.aload_n 0, 1) := by decide +kernel
theorem dX2_here_26 : decode cX2_here 26 = .ok (.getfield 14, 3) := by decide +kernel
theorem dX2_here_29 : decode cX2_here 29 = .ok (.getfield 65, 3) := by decide +kernel
theorem dX2_here_32 : decode cX2_here 32 = .ok (.arraylength, 1) := by decide +kernel
theorem dX2_here_33 : decode cX2_here 33 = .ok (.if_icmp .ge 7, 3) := by decide +kernel
theorem dX2_here_36 : decode cX2_here 36 = .ok (.iconst 1, 1) := by decide +kernel
theorem dX2_here_37 : decode cX2_here 37 = .ok (.goto 4, 3) := by decide +kernel
theorem dX2_here_40 : decode cX2_here 40 = .ok (.iconst 0, 1) := by decide +kernel
theorem dX2_here_41 : decode cX2_here 41 = .ok (.istore_n 1, 1) := by decide +kernel
theorem dX2_here_42 : decode cX2_here 42 = .ok (.iload_n 1, 1) := by decide +kernel
theorem dX2_here_43 : decode cX2_here 43 = .ok (.ifCond .eq 18, 3) := by decide +kernel
theorem dX2_here_46 : decode cX2_here 46 = .ok (.aload_n 0, 1) := by decide +kernel
theorem dX2_here_47 : decode cX2_here 47 = .ok (.getfield 14, 3) := by decide +kernel
theorem dX2_here_50 : decode cX2_here 50 = .ok (.getfield 65, 3) := by decide +kernel
theorem dX2_here_53 : decode cX2_here 53 = .ok (.aload_n 0, 1) := by decide +kernel
theorem dX2_here_54 : decode cX2_here 54 = .ok (.getfield 53, 3) := by decide +kernel
theorem dX2_here_57 : decode cX2_here 57 = .ok (.iaload, 1) := by decide +kernel
theorem dX2_here_58 : decode cX2_here 58 = .ok (.goto 4, 3) := by decide +kernel
theorem dX2_here_61 : decode cX2_here 61 = .ok (.iconst (-1), 1) := by decide +kernel
theorem dX2_here_62 : decode cX2_here 62 = .ok (.ireturn, 1) := by decide +kernel
theorem dX2_failAt_0 : decode cX2_failAt 0 = .ok (.aload_n 0, 1) := by decide +kernel
theorem dX2_failAt_1 : decode cX2_failAt 1 = .ok (.getfield 49, 3) := by decide +kernel
theorem dX2_failAt_4 : decode cX2_failAt 4 = .ok (.ifCond .ge 8, 3) := by decide +kernel
theorem dX2_failAt_7 : decode cX2_failAt 7 = .ok (.aload_n 0, 1) := by decide +kernel
theorem dX2_failAt_8 : decode cX2_failAt 8 = .ok (.iload_n 1, 1) := by decide +kernel
theorem dX2_failAt_9 : decode cX2_failAt 9 = .ok (.putfield 49, 3) := by decide +kernel
theorem dX2_failAt_12 : decode cX2_failAt 12 = .ok (.aload_n 0, 1) := by decide +kernel
theorem dX2_failAt_13 : decode cX2_failAt 13 = .ok (.aload_n 0, 1) := by decide +kernel
theorem dX2_failAt_14 : decode cX2_failAt 14 = .ok (.getfield 14, 3) := by decide +kernel
theorem dX2_failAt_17 : decode cX2_failAt 17 = .ok (.getfield 62, 3) := by decide +kernel
theorem dX2_failAt_20 : decode cX2_failAt 20 = .ok (.putfield 53, 3) := by decide +kernel
theorem dX2_failAt_23 : decode cX2_failAt 23 = .ok (.return_, 1) := by decide +kernel
theorem dX2_expect_0 : decode cX2_expect 0 = .ok (.aload_n 0, 1) := by decide +kernel
theorem dX2_expect_1 : decode cX2_expect 1 = .ok (.invokevirtual 34, 3) := by decide +kernel
theorem dX2_expect_4 : decode cX2_expect 4 = .ok (.iload_n 1, 1) := by decide +kernel
theorem dX2_expect_5 : decode cX2_expect 5 = .ok (.if_icmp .ne 16, 3) := by decide +kernel
theorem dX2_expect_8 : decode cX2_expect 8 = .ok (.aload_n 0, 1) := by decide +kernel
theorem dX2_expect_9 : decode cX2_expect 9 = .ok (.dup, 1) := by decide +kernel
theorem dX2_expect_10 : decode cX2_expect 10 = .ok (.getfield 53, 3) := by decide +kernel
theorem dX2_expect_13 : decode cX2_expect 13 = .ok (.iconst 1, 1) := by decide +kernel
theorem dX2_expect_14 : decode cX2_expect 14 = .ok (.iadd, 1) := by decide +kernel
theorem dX2_expect_15 : decode cX2_expect 15 = .ok (.putfield 53, 3) := by decide +kernel
theorem dX2_expect_18 : decode cX2_expect 18 = .ok (.goto 11, 3) := by decide +kernel
theorem dX2_expect_21 : decode cX2_expect 21 = .ok (.aload_n 0, 1) := by decide +kernel
theorem dX2_expect_22 : decode cX2_expect 22 = .ok (.aload_n 0, 1) := by decide +kernel
theorem dX2_expect_23 : decode cX2_expect 23 = .ok (.getfield 53, 3) := by decide +kernel
theorem dX2_expect_26 : decode cX2_expect 26 = .ok (.invokevirtual 56, 3) := by decide +kernel
theorem dX2_expect_29 : decode cX2_expect 29 = .ok (.return_, 1) := by decide +kernel
theorem dX2_readSteps_0 : decode cX2_readSteps 0 = .ok (.aload_n 0, 1) := by decide +kernel
theorem dX2_readSteps_1 : decode cX2_readSteps 1 = .ok (.iload_n 1, 1) := by decide +kernel
theorem dX2_readSteps_2 : decode cX2_readSteps 2 = .ok (.iconst 0, 1) := by decide +kernel
theorem dX2_readSteps_3 : decode cX2_readSteps 3 = .ok (.invokevirtual 69, 3) := by decide +kernel
theorem dX2_readSteps_6 : decode cX2_readSteps 6 = .ok (.astore_n 3, 1) := by decide +kernel
theorem dX2_readSteps_7 : decode cX2_readSteps 7 = .ok (.aload_n 3, 1) := by decide +kernel
theorem dX2_readSteps_8 : decode cX2_readSteps 8 = .ok (.astore 4, 2) := by decide +kernel
theorem dX2_readSteps_10 : decode cX2_readSteps 10 = .ok (.iconst 1, 1) := by decide +kernel
theorem dX2_readSteps_11 : decode cX2_readSteps 11 = .ok (.istore 5, 2) := by decide +kernel
theorem dX2_readSteps_13 : decode cX2_readSteps 13 = .ok (.iload 5, 2) := by decide +kernel
theorem dX2_readSteps_15 : decode cX2_readSteps 15 = .ok (.bipush 120, 2) := by decide +kernel
theorem dX2_readSteps_17 : decode cX2_readSteps 17 = .ok (.if_icmp .ge 51, 3) := by decide +kernel
theorem dX2_readSteps_20 : decode cX2_readSteps 20 = .ok (.aload 4, 2) := by decide +kernel
theorem dX2_readSteps_22 : decode cX2_readSteps 22 = .ok (.ifnull 46, 3) := by decide +kernel
theorem dX2_readSteps_25 : decode cX2_readSteps 25 = .ok (.aload_n 0, 1) := by decide +kernel
theorem dX2_readSteps_26 : decode cX2_readSteps 26 = .ok (.invokevirtual 34, 3) := by decide +kernel
theorem dX2_readSteps_29 : decode cX2_readSteps 29 = .ok (.bipush 59, 2) := by decide +kernel
theorem dX2_readSteps_31 : decode cX2_readSteps 31 = .ok (.if_icmp .ne 37, 3) := by decide +kernel
theorem dX2_readSteps_34 : decode cX2_readSteps 34 = .ok (.aload_n 0, 1) := by decide +kernel
theorem dX2_readSteps_35 : decode cX2_readSteps 35 = .ok (.dup, 1) := by decide +kernel
theorem dX2_readSteps_36 : decode cX2_readSteps 36 = .ok (.getfield 53, 3) := by decide +kernel
theorem dX2_readSteps_39 : decode cX2_readSteps 39 = .ok (.iconst 1, 1) := by decide +kernel
theorem dX2_readSteps_40 : decode cX2_readSteps 40 = .ok (.iadd, 1) := by decide +kernel
theorem dX2_readSteps_41 : decode cX2_readSteps 41 = .ok (.putfield 53, 3) := by decide +kernel
theorem dX2_readSteps_44 : decode cX2_readSteps 44 = .ok (.aload 4, 2) := by decide +kernel
theorem dX2_readSteps_46 : decode cX2_readSteps 46 = .ok (.aload_n 0, 1) := by decide +kernel
theorem dX2_readSteps_47 : decode cX2_readSteps 47 = .ok (.iload_n 1, 1) := by decide +kernel
theorem dX2_readSteps_48 : decode cX2_readSteps 48 = .ok (.iconst 0, 1) := by decide +kernel
theorem dX2_readSteps_49 : decode cX2_readSteps 49 = .ok (.invokevirtual 69, 3) := by decide +kernel
theorem dX2_readSteps_52 : decode cX2_readSteps 52 = .ok (.putfield 73, 3) := by decide +kernel
theorem dX2_readSteps_55 : decode cX2_readSteps 55 = .ok (.aload 4, 2) := by decide +kernel
theorem dX2_readSteps_57 : decode cX2_readSteps 57 = .ok (.getfield 73, 3) := by decide +kernel
theorem dX2_readSteps_60 : decode cX2_readSteps 60 = .ok (.astore 4, 2) := by decide +kernel
theorem dX2_readSteps_62 : decode cX2_readSteps 62 = .ok (.iinc 5 1, 3) := by decide +kernel
theorem dX2_readSteps_65 : decode cX2_readSteps 65 = .ok (.goto (-52), 3) := by decide +kernel
theorem dX2_readSteps_68 : decode cX2_readSteps 68 = .ok (.aload_n 0, 1) := by decide +kernel
theorem dX2_readSteps_69 : decode cX2_readSteps 69 = .ok (.invokevirtual 34, 3) := by decide +kernel
theorem dX2_readSteps_72 : decode cX2_readSteps 72 = .ok (.iload_n 2, 1) := by decide +kernel
theorem dX2_readSteps_73 : decode cX2_readSteps 73 = .ok (.if_icmp .ne 15, 3) := by decide +kernel
theorem dX2_readSteps_76 : decode cX2_readSteps 76 = .ok (.iload_n 2, 1) := by decide +kernel
theorem dX2_readSteps_77 : decode cX2_readSteps 77 = .ok (.iconst (-1), 1) := by decide +kernel
theorem dX2_readSteps_78 : decode cX2_readSteps 78 = .ok (.if_icmp .ne 18, 3) := by decide +kernel
theorem dX2_readSteps_81 : decode cX2_readSteps 81 = .ok (.aload_n 0, 1) := by decide +kernel
theorem dX2_readSteps_82 : decode cX2_readSteps 82 = .ok (.getfield 59, 3) := by decide +kernel
theorem dX2_readSteps_85 : decode cX2_readSteps 85 = .ok (.ifCond .le 11, 3) := by decide +kernel
theorem dX2_readSteps_88 : decode cX2_readSteps 88 = .ok (.aload_n 0, 1) := by decide +kernel
theorem dX2_readSteps_89 : decode cX2_readSteps 89 = .ok (.aload_n 0, 1) := by decide +kernel
theorem dX2_readSteps_90 : decode cX2_readSteps 90 = .ok (.getfield 53, 3) := by decide +kernel
theorem dX2_readSteps_93 : decode cX2_readSteps 93 = .ok (.invokevirtual 56, 3) := by decide +kernel
theorem dX2_readSteps_96 : decode cX2_readSteps 96 = .ok (.aload_n 3, 1) := by decide +kernel
theorem dX2_readSteps_97 : decode cX2_readSteps 97 = .ok (.areturn, 1) := by decide +kernel
theorem dX2_readStep_0 : decode cX2_readStep 0 = .ok (.aload_n 0, 1) := by decide +kernel
theorem dX2_readStep_1 : decode cX2_readStep 1 = .ok (.invokevirtual 34, 3) := by decide +kernel
theorem dX2_readStep_4 : decode cX2_readStep 4 = .ok (.istore_n 3, 1) := by decide +kernel
theorem dX2_readStep_5 : decode cX2_readStep 5 = .ok (.aload_n 0, 1) := by decide +kernel
theorem dX2_readStep_6 : decode cX2_readStep 6 = .ok (.iload_n 3, 1) := by decide +kernel
theorem dX2_readStep_7 : decode cX2_readStep 7 = .ok (.iload_n 1, 1) := by decide +kernel
theorem dX2_readStep_8 : decode cX2_readStep 8 = .ok (.iload_n 2, 1) := by decide +kernel
theorem dX2_readStep_9 : decode cX2_readStep 9 = .ok (.invokevirtual 76, 3) := by decide +kernel
theorem dX2_readStep_12 : decode cX2_readStep 12 = .ok (.ifCond .ne 13, 3) := by decide +kernel
theorem dX2_readStep_15 : decode cX2_readStep 15 = .ok (.aload_n 0, 1) := by decide +kernel
theorem dX2_readStep_16 : decode cX2_readStep 16 = .ok (.aload_n 0, 1) := by decide +kernel
theorem dX2_readStep_17 : decode cX2_readStep 17 = .ok (.getfield 53, 3) := by decide +kernel
theorem dX2_readStep_20 : decode cX2_readStep 20 = .ok (.invokevirtual 56, 3) := by decide +kernel
theorem dX2_readStep_23 : decode cX2_readStep 23 = .ok (.aconst_null, 1) := by decide +kernel
theorem dX2_readStep_24 : decode cX2_readStep 24 = .ok (.areturn, 1) := by decide +kernel
theorem dX2_readStep_25 : decode cX2_readStep 25 = .ok (.aload_n 0, 1) := by decide +kernel
theorem dX2_readStep_26 : decode cX2_readStep 26 = .ok (.dup, 1) := by decide +kernel
theorem dX2_readStep_27 : decode cX2_readStep 27 = .ok (.getfield 53, 3) := by decide +kernel
theorem dX2_readStep_30 : decode cX2_readStep 30 = .ok (.iconst 1, 1) := by decide +kernel
theorem dX2_readStep_31 : decode cX2_readStep 31 = .ok (.iadd, 1) := by decide +kernel
theorem dX2_readStep_32 : decode cX2_readStep 32 = .ok (.putfield 53, 3) := by decide +kernel
theorem dX2_readStep_35 : decode cX2_readStep 35 = .ok (.new 23, 3) := by decide +kernel
theorem dX2_readStep_38 : decode cX2_readStep 38 = .ok (.dup, 1) := by decide +kernel
theorem dX2_readStep_39 : decode cX2_readStep 39 = .ok (.iload_n 3, 1) := by decide +kernel
theorem dX2_readStep_40 : decode cX2_readStep 40 = .ok (.invokespecial 25, 3) := by decide +kernel
theorem dX2_readStep_43 : decode cX2_readStep 43 = .ok (.astore 4, 2) := by decide +kernel
theorem dX2_readStep_45 : decode cX2_readStep 45 = .ok (.iload_n 3, 1) := by decide +kernel
theorem dX2_readStep_46 : decode cX2_readStep 46 = .ok (.lookupswitch 271 #[(33, 111), (40, 245), (41, 258), (43, 82), (63, 199), (97, 123), (107, 185), (109, 157), (120, 145)], 82) := by decide +kernel
theorem dX2_readStep_128 : decode cX2_readStep 128 = .ok (.aload 4, 2) := by decide +kernel
theorem dX2_readStep_130 : decode cX2_readStep 130 = .ok (.aload_n 0, 1) := by decide +kernel
theorem dX2_readStep_131 : decode cX2_readStep 131 = .ok (.bipush 8, 2) := by decide +kernel
theorem dX2_readStep_133 : decode cX2_readStep 133 = .ok (.invokevirtual 80, 3) := by decide +kernel
theorem dX2_readStep_136 : decode cX2_readStep 136 = .ok (.putfield 84, 3) := by decide +kernel
theorem dX2_readStep_139 : decode cX2_readStep 139 = .ok (.aload_n 0, 1) := by decide +kernel
theorem dX2_readStep_140 : decode cX2_readStep 140 = .ok (.bipush 61, 2) := by decide +kernel
theorem dX2_readStep_142 : decode cX2_readStep 142 = .ok (.invokevirtual 38, 3) := by decide +kernel
theorem dX2_readStep_145 : decode cX2_readStep 145 = .ok (.aload 4, 2) := by decide +kernel
theorem dX2_readStep_147 : decode cX2_readStep 147 = .ok (.aload_n 0, 1) := by decide +kernel
theorem dX2_readStep_148 : decode cX2_readStep 148 = .ok (.invokevirtual 87, 3) := by decide +kernel
theorem dX2_readStep_151 : decode cX2_readStep 151 = .ok (.putfield 90, 3) := by decide +kernel
theorem dX2_readStep_154 : decode cX2_readStep 154 = .ok (.goto 163, 3) := by decide +kernel
theorem dX2_readStep_157 : decode cX2_readStep 157 = .ok (.aload 4, 2) := by decide +kernel
theorem dX2_readStep_159 : decode cX2_readStep 159 = .ok (.aload_n 0, 1) := by decide +kernel
theorem dX2_readStep_160 : decode cX2_readStep 160 = .ok (.invokevirtual 93, 3) := by decide +kernel
theorem dX2_readStep_163 : decode cX2_readStep 163 = .ok (.putfield 84, 3) := by decide +kernel
theorem dX2_readStep_166 : decode cX2_readStep 166 = .ok (.goto 151, 3) := by decide +kernel
theorem dX2_readStep_169 : decode cX2_readStep 169 = .ok (.aload 4, 2) := by decide +kernel
theorem dX2_readStep_171 : decode cX2_readStep 171 = .ok (.aload_n 0, 1) := by decide +kernel
theorem dX2_readStep_172 : decode cX2_readStep 172 = .ok (.invokevirtual 26, 3) := by decide +kernel
theorem dX2_readStep_175 : decode cX2_readStep 175 = .ok (.putfield 30, 3) := by decide +kernel
theorem dX2_readStep_178 : decode cX2_readStep 178 = .ok (.aload 4, 2) := by decide +kernel
theorem dX2_readStep_180 : decode cX2_readStep 180 = .ok (.aload_n 0, 1) := by decide +kernel
theorem dX2_readStep_181 : decode cX2_readStep 181 = .ok (.iload_n 1, 1) := by decide +kernel
theorem dX2_readStep_182 : decode cX2_readStep 182 = .ok (.invokevirtual 96, 3) := by decide +kernel
theorem dX2_readStep_185 : decode cX2_readStep 185 = .ok (.putfield 45, 3) := by decide +kernel
theorem dX2_readStep_188 : decode cX2_readStep 188 = .ok (.goto 129, 3) := by decide +kernel
theorem dX2_readStep_191 : decode cX2_readStep 191 = .ok (.aload 4, 2) := by decide +kernel
theorem dX2_readStep_193 : decode cX2_readStep 193 = .ok (.aload_n 0, 1) := by decide +kernel
theorem dX2_readStep_194 : decode cX2_readStep 194 = .ok (.invokevirtual 26, 3) := by decide +kernel
theorem dX2_readStep_197 : decode cX2_readStep 197 = .ok (.putfield 30, 3) := by decide +kernel
theorem dX2_readStep_200 : decode cX2_readStep 200 = .ok (.goto 117, 3) := by decide +kernel
theorem dX2_readStep_203 : decode cX2_readStep 203 = .ok (.aload 4, 2) := by decide +kernel
theorem dX2_readStep_205 : decode cX2_readStep 205 = .ok (.aload_n 0, 1) := by decide +kernel
theorem dX2_readStep_206 : decode cX2_readStep 206 = .ok (.invokevirtual 26, 3) := by decide +kernel
theorem dX2_readStep_209 : decode cX2_readStep 209 = .ok (.putfield 30, 3) := by decide +kernel
theorem dX2_readStep_212 : decode cX2_readStep 212 = .ok (.aload_n 0, 1) := by decide +kernel
theorem dX2_readStep_213 : decode cX2_readStep 213 = .ok (.bipush 62, 2) := by decide +kernel
theorem dX2_readStep_215 : decode cX2_readStep 215 = .ok (.invokevirtual 38, 3) := by decide +kernel
theorem dX2_readStep_218 : decode cX2_readStep 218 = .ok (.aload 4, 2) := by decide +kernel
theorem dX2_readStep_220 : decode cX2_readStep 220 = .ok (.aload_n 0, 1) := by decide +kernel
theorem dX2_readStep_221 : decode cX2_readStep 221 = .ok (.iconst 2, 1) := by decide +kernel
theorem dX2_readStep_222 : decode cX2_readStep 222 = .ok (.invokevirtual 100, 3) := by decide +kernel
theorem dX2_readStep_225 : decode cX2_readStep 225 = .ok (.putfield 84, 3) := by decide +kernel
theorem dX2_readStep_228 : decode cX2_readStep 228 = .ok (.goto 89, 3) := by decide +kernel
theorem dX2_readStep_231 : decode cX2_readStep 231 = .ok (.aload 4, 2) := by decide +kernel
theorem dX2_readStep_233 : decode cX2_readStep 233 = .ok (.aload_n 0, 1) := by decide +kernel
theorem dX2_readStep_234 : decode cX2_readStep 234 = .ok (.bipush 10, 2) := by decide +kernel
theorem dX2_readStep_236 : decode cX2_readStep 236 = .ok (.invokevirtual 80, 3) := by decide +kernel
theorem dX2_readStep_239 : decode cX2_readStep 239 = .ok (.putfield 84, 3) := by decide +kernel
theorem dX2_readStep_242 : decode cX2_readStep 242 = .ok (.goto 75, 3) := by decide +kernel
theorem dX2_readStep_245 : decode cX2_readStep 245 = .ok (.aload 4, 2) := by decide +kernel
theorem dX2_readStep_247 : decode cX2_readStep 247 = .ok (.aload_n 0, 1) := by decide +kernel
theorem dX2_readStep_248 : decode cX2_readStep 248 = .ok (.bipush 8, 2) := by decide +kernel
theorem dX2_readStep_250 : decode cX2_readStep 250 = .ok (.invokevirtual 80, 3) := by decide +kernel
theorem dX2_readStep_253 : decode cX2_readStep 253 = .ok (.putfield 84, 3) := by decide +kernel
theorem dX2_readStep_256 : decode cX2_readStep 256 = .ok (.aload_n 0, 1) := by decide +kernel
theorem dX2_readStep_257 : decode cX2_readStep 257 = .ok (.bipush 60, 2) := by decide +kernel
theorem dX2_readStep_259 : decode cX2_readStep 259 = .ok (.invokevirtual 38, 3) := by decide +kernel
theorem dX2_readStep_262 : decode cX2_readStep 262 = .ok (.aload 4, 2) := by decide +kernel
theorem dX2_readStep_264 : decode cX2_readStep 264 = .ok (.aload_n 0, 1) := by decide +kernel
theorem dX2_readStep_265 : decode cX2_readStep 265 = .ok (.invokevirtual 87, 3) := by decide +kernel
theorem dX2_readStep_268 : decode cX2_readStep 268 = .ok (.putfield 90, 3) := by decide +kernel
theorem dX2_readStep_271 : decode cX2_readStep 271 = .ok (.aload_n 0, 1) := by decide +kernel
theorem dX2_readStep_272 : decode cX2_readStep 272 = .ok (.bipush 58, 2) := by decide +kernel
theorem dX2_readStep_274 : decode cX2_readStep 274 = .ok (.invokevirtual 38, 3) := by decide +kernel
theorem dX2_readStep_277 : decode cX2_readStep 277 = .ok (.aload 4, 2) := by decide +kernel
theorem dX2_readStep_279 : decode cX2_readStep 279 = .ok (.aload_n 0, 1) := by decide +kernel
theorem dX2_readStep_280 : decode cX2_readStep 280 = .ok (.iload_n 1, 1) := by decide +kernel
theorem dX2_readStep_281 : decode cX2_readStep 281 = .ok (.iconst 1, 1) := by decide +kernel
theorem dX2_readStep_282 : decode cX2_readStep 282 = .ok (.invokevirtual 69, 3) := by decide +kernel
theorem dX2_readStep_285 : decode cX2_readStep 285 = .ok (.putfield 45, 3) := by decide +kernel
theorem dX2_readStep_288 : decode cX2_readStep 288 = .ok (.goto 29, 3) := by decide +kernel
theorem dX2_readStep_291 : decode cX2_readStep 291 = .ok (.aload_n 0, 1) := by decide +kernel
theorem dX2_readStep_292 : decode cX2_readStep 292 = .ok (.dup, 1) := by decide +kernel
theorem dX2_readStep_293 : decode cX2_readStep 293 = .ok (.getfield 59, 3) := by decide +kernel
theorem dX2_readStep_296 : decode cX2_readStep 296 = .ok (.iconst 1, 1) := by decide +kernel
theorem dX2_readStep_297 : decode cX2_readStep 297 = .ok (.iadd, 1) := by decide +kernel
theorem dX2_readStep_298 : decode cX2_readStep 298 = .ok (.putfield 59, 3) := by decide +kernel
theorem dX2_readStep_301 : decode cX2_readStep 301 = .ok (.goto 16, 3) := by decide +kernel
theorem dX2_readStep_304 : decode cX2_readStep 304 = .ok (.aload_n 0, 1) := by decide +kernel
theorem dX2_readStep_305 : decode cX2_readStep 305 = .ok (.dup, 1) := by decide +kernel
theorem dX2_readStep_306 : decode cX2_readStep 306 = .ok (.getfield 59, 3) := by decide +kernel
theorem dX2_readStep_309 : decode cX2_readStep 309 = .ok (.iconst 1, 1) := by decide +kernel
theorem dX2_readStep_310 : decode cX2_readStep 310 = .ok (.isub, 1) := by decide +kernel
theorem dX2_readStep_311 : decode cX2_readStep 311 = .ok (.putfield 59, 3) := by decide +kernel
theorem dX2_readStep_314 : decode cX2_readStep 314 = .ok (.goto 3, 3) := by decide +kernel
theorem dX2_readStep_317 : decode cX2_readStep 317 = .ok (.aload 4, 2) := by decide +kernel
theorem dX2_readStep_319 : decode cX2_readStep 319 = .ok (.areturn, 1) := by decide +kernel
theorem dX2_mayBegin_0 : decode cX2_mayBegin 0 = .ok (.iload_n 1, 1) := by decide +kernel
theorem dX2_mayBegin_1 : decode cX2_mayBegin 1 = .ok (.lookupswitch 138 #[(33, 91), (40, 103), (41, 117), (43, 91), (46, 91), (63, 93), (97, 91), (107, 91), (109, 91), (120, 91)], 91) := by decide +kernel
theorem dX2_mayBegin_92 : decode cX2_mayBegin 92 = .ok (.iconst 1, 1) := by decide +kernel
theorem dX2_mayBegin_93 : decode cX2_mayBegin 93 = .ok (.ireturn, 1) := by decide +kernel
theorem dX2_mayBegin_94 : decode cX2_mayBegin 94 = .ok (.iload_n 3, 1) := by decide +kernel
theorem dX2_mayBegin_95 : decode cX2_mayBegin 95 = .ok (.ifCond .ne 7, 3) := by decide +kernel
theorem dX2_mayBegin_98 : decode cX2_mayBegin 98 = .ok (.iconst 1, 1) := by decide +kernel
theorem dX2_mayBegin_99 : decode cX2_mayBegin 99 = .ok (.goto 4, 3) := by decide +kernel
theorem dX2_mayBegin_102 : decode cX2_mayBegin 102 = .ok (.iconst 0, 1) := by decide +kernel
theorem dX2_mayBegin_103 : decode cX2_mayBegin 103 = .ok (.ireturn, 1) := by decide +kernel
theorem dX2_mayBegin_104 : decode cX2_mayBegin 104 = .ok (.iload_n 3, 1) := by decide +kernel
theorem dX2_mayBegin_105 : decode cX2_mayBegin 105 = .ok (.ifCond .ne 11, 3) := by decide +kernel
theorem dX2_mayBegin_108 : decode cX2_mayBegin 108 = .ok (.iload_n 2, 1) := by decide +kernel
theorem dX2_mayBegin_109 : decode cX2_mayBegin 109 = .ok (.ifCond .ne 7, 3) := by decide +kernel
theorem dX2_mayBegin_112 : decode cX2_mayBegin 112 = .ok (.iconst 1, 1) := by decide +kernel
theorem dX2_mayBegin_113 : decode cX2_mayBegin 113 = .ok (.goto 4, 3) := by decide +kernel
theorem dX2_mayBegin_116 : decode cX2_mayBegin 116 = .ok (.iconst 0, 1) := by decide +kernel
theorem dX2_mayBegin_117 : decode cX2_mayBegin 117 = .ok (.ireturn, 1) := by decide +kernel
theorem dX2_mayBegin_118 : decode cX2_mayBegin 118 = .ok (.iload_n 3, 1) := by decide +kernel
theorem dX2_mayBegin_119 : decode cX2_mayBegin 119 = .ok (.ifCond .ne 18, 3) := by decide +kernel
theorem dX2_mayBegin_122 : decode cX2_mayBegin 122 = .ok (.iload_n 2, 1) := by decide +kernel
theorem dX2_mayBegin_123 : decode cX2_mayBegin 123 = .ok (.ifCond .ne 14, 3) := by decide +kernel
theorem dX2_mayBegin_126 : decode cX2_mayBegin 126 = .ok (.aload_n 0, 1) := by decide +kernel
theorem dX2_mayBegin_127 : decode cX2_mayBegin 127 = .ok (.getfield 59, 3) := by decide +kernel
theorem dX2_mayBegin_130 : decode cX2_mayBegin 130 = .ok (.ifCond .le 7, 3) := by decide +kernel
theorem dX2_mayBegin_133 : decode cX2_mayBegin 133 = .ok (.iconst 1, 1) := by decide +kernel
theorem dX2_mayBegin_134 : decode cX2_mayBegin 134 = .ok (.goto 4, 3) := by decide +kernel
theorem dX2_mayBegin_137 : decode cX2_mayBegin 137 = .ok (.iconst 0, 1) := by decide +kernel
theorem dX2_mayBegin_138 : decode cX2_mayBegin 138 = .ok (.ireturn, 1) := by decide +kernel
theorem dX2_mayBegin_139 : decode cX2_mayBegin 139 = .ok (.iconst 0, 1) := by decide +kernel
theorem dX2_mayBegin_140 : decode cX2_mayBegin 140 = .ok (.ireturn, 1) := by decide +kernel
theorem dX2_readCloser_0 : decode cX2_readCloser 0 = .ok (.aload_n 0, 1) := by decide +kernel
theorem dX2_readCloser_1 : decode cX2_readCloser 1 = .ok (.invokevirtual 34, 3) := by decide +kernel
theorem dX2_readCloser_4 : decode cX2_readCloser 4 = .ok (.bipush 123, 2) := by decide +kernel
theorem dX2_readCloser_6 : decode cX2_readCloser 6 = .ok (.if_icmp .ne 8, 3) := by decide +kernel
theorem dX2_readCloser_9 : decode cX2_readCloser 9 = .ok (.iload_n 1, 1) := by decide +kernel
theorem dX2_readCloser_10 : decode cX2_readCloser 10 = .ok (.iconst 3, 1) := by decide +kernel
theorem dX2_readCloser_11 : decode cX2_readCloser 11 = .ok (.if_icmp .lt 5, 3) := by decide +kernel
theorem dX2_readCloser_14 : decode cX2_readCloser 14 = .ok (.aconst_null, 1) := by decide +kernel
theorem dX2_readCloser_15 : decode cX2_readCloser 15 = .ok (.areturn, 1) := by decide +kernel
theorem dX2_readCloser_16 : decode cX2_readCloser 16 = .ok (.aload_n 0, 1) := by decide +kernel
theorem dX2_readCloser_17 : decode cX2_readCloser 17 = .ok (.dup, 1) := by decide +kernel
theorem dX2_readCloser_18 : decode cX2_readCloser 18 = .ok (.getfield 53, 3) := by decide +kernel
theorem dX2_readCloser_21 : decode cX2_readCloser 21 = .ok (.iconst 1, 1) := by decide +kernel
theorem dX2_readCloser_22 : decode cX2_readCloser 22 = .ok (.iadd, 1) := by decide +kernel
theorem dX2_readCloser_23 : decode cX2_readCloser 23 = .ok (.putfield 53, 3) := by decide +kernel
theorem dX2_readCloser_26 : decode cX2_readCloser 26 = .ok (.aload_n 0, 1) := by decide +kernel
theorem dX2_readCloser_27 : decode cX2_readCloser 27 = .ok (.iload_n 1, 1) := by decide +kernel
theorem dX2_readCloser_28 : decode cX2_readCloser 28 = .ok (.iconst 1, 1) := by decide +kernel
theorem dX2_readCloser_29 : decode cX2_readCloser 29 = .ok (.iadd, 1) := by decide +kernel
theorem dX2_readCloser_30 : decode cX2_readCloser 30 = .ok (.bipush 125, 2) := by decide +kernel
theorem dX2_readCloser_32 : decode cX2_readCloser 32 = .ok (.invokevirtual 41, 3) := by decide +kernel
theorem dX2_readCloser_35 : decode cX2_readCloser 35 = .ok (.astore_n 2, 1) := by decide +kernel
theorem dX2_readCloser_36 : decode cX2_readCloser 36 = .ok (.aload_n 0, 1) := by decide +kernel
theorem dX2_readCloser_37 : decode cX2_readCloser 37 = .ok (.bipush 125, 2) := by decide +kernel
theorem dX2_readCloser_39 : decode cX2_readCloser 39 = .ok (.invokevirtual 38, 3) := by decide +kernel
theorem dX2_readCloser_42 : decode cX2_readCloser 42 = .ok (.aload_n 2, 1) := by decide +kernel
theorem dX2_readCloser_43 : decode cX2_readCloser 43 = .ok (.areturn, 1) := by decide +kernel
theorem dX2_readName_0 : decode cX2_readName 0 = .ok (.aload_n 0, 1) := by decide +kernel
theorem dX2_readName_1 : decode cX2_readName 1 = .ok (.invokevirtual 34, 3) := by decide +kernel
theorem dX2_readName_4 : decode cX2_readName 4 = .ok (.invokestatic 103, 3) := by decide +kernel
theorem dX2_readName_7 : decode cX2_readName 7 = .ok (.ifCond .ne 11, 3) := by decide +kernel
theorem dX2_readName_10 : decode cX2_readName 10 = .ok (.aload_n 0, 1) := by decide +kernel
theorem dX2_readName_11 : decode cX2_readName 11 = .ok (.aload_n 0, 1) := by decide +kernel
theorem dX2_readName_12 : decode cX2_readName 12 = .ok (.getfield 53, 3) := by decide +kernel
theorem dX2_readName_15 : decode cX2_readName 15 = .ok (.invokevirtual 56, 3) := by decide +kernel
theorem dX2_readName_18 : decode cX2_readName 18 = .ok (.lconst 0, 1) := by decide +kernel
theorem dX2_readName_19 : decode cX2_readName 19 = .ok (.lstore_n 1, 1) := by decide +kernel
theorem dX2_readName_20 : decode cX2_readName 20 = .ok (.iconst 0, 1) := by decide +kernel
theorem dX2_readName_21 : decode cX2_readName 21 = .ok (.istore_n 3, 1) := by decide +kernel
theorem dX2_readName_22 : decode cX2_readName 22 = .ok (.iload_n 3, 1) := by decide +kernel
theorem dX2_readName_23 : decode cX2_readName 23 = .ok (.bipush 7, 2) := by decide +kernel
theorem dX2_readName_25 : decode cX2_readName 25 = .ok (.if_icmp .ge 46, 3) := by decide +kernel
theorem dX2_readName_28 : decode cX2_readName 28 = .ok (.lload_n 1, 1) := by decide +kernel
theorem dX2_readName_29 : decode cX2_readName 29 = .ok (.iconst 5, 1) := by decide +kernel
theorem dX2_readName_30 : decode cX2_readName 30 = .ok (.lshl, 1) := by decide +kernel
theorem dX2_readName_31 : decode cX2_readName 31 = .ok (.lstore_n 1, 1) := by decide +kernel
theorem dX2_readName_32 : decode cX2_readName 32 = .ok (.aload_n 0, 1) := by decide +kernel
theorem dX2_readName_33 : decode cX2_readName 33 = .ok (.invokevirtual 34, 3) := by decide +kernel
theorem dX2_readName_36 : decode cX2_readName 36 = .ok (.invokestatic 103, 3) := by decide +kernel
theorem dX2_readName_39 : decode cX2_readName 39 = .ok (.ifCond .eq 26, 3) := by decide +kernel
theorem dX2_readName_42 : decode cX2_readName 42 = .ok (.lload_n 1, 1) := by decide +kernel
theorem dX2_readName_43 : decode cX2_readName 43 = .ok (.aload_n 0, 1) := by decide +kernel
theorem dX2_readName_44 : decode cX2_readName 44 = .ok (.invokevirtual 34, 3) := by decide +kernel
theorem dX2_readName_47 : decode cX2_readName 47 = .ok (.bipush 97, 2) := by decide +kernel
theorem dX2_readName_49 : decode cX2_readName 49 = .ok (.isub, 1) := by decide +kernel
theorem dX2_readName_50 : decode cX2_readName 50 = .ok (.iconst 1, 1) := by decide +kernel
theorem dX2_readName_51 : decode cX2_readName 51 = .ok (.iadd, 1) := by decide +kernel
theorem dX2_readName_52 : decode cX2_readName 52 = .ok (.i2l, 1) := by decide +kernel
theorem dX2_readName_53 : decode cX2_readName 53 = .ok (.ladd, 1) := by decide +kernel
theorem dX2_readName_54 : decode cX2_readName 54 = .ok (.lstore_n 1, 1) := by decide +kernel
theorem dX2_readName_55 : decode cX2_readName 55 = .ok (.aload_n 0, 1) := by decide +kernel
theorem dX2_readName_56 : decode cX2_readName 56 = .ok (.dup, 1) := by decide +kernel
theorem dX2_readName_57 : decode cX2_readName 57 = .ok (.getfield 53, 3) := by decide +kernel
theorem dX2_readName_60 : decode cX2_readName 60 = .ok (.iconst 1, 1) := by decide +kernel
theorem dX2_readName_61 : decode cX2_readName 61 = .ok (.iadd, 1) := by decide +kernel
theorem dX2_readName_62 : decode cX2_readName 62 = .ok (.putfield 53, 3) := by decide +kernel
theorem dX2_readName_65 : decode cX2_readName 65 = .ok (.iinc 3 1, 3) := by decide +kernel
theorem dX2_readName_68 : decode cX2_readName 68 = .ok (.goto (-46), 3) := by decide +kernel
theorem dX2_readName_71 : decode cX2_readName 71 = .ok (.lload_n 1, 1) := by decide +kernel
theorem dX2_readName_72 : decode cX2_readName 72 = .ok (.lreturn, 1) := by decide +kernel
theorem dX2_isLetter_0 : decode cX2_isLetter 0 = .ok (.iload_n 0, 1) := by decide +kernel
theorem dX2_isLetter_1 : decode cX2_isLetter 1 = .ok (.bipush 97, 2) := by decide +kernel
theorem dX2_isLetter_3 : decode cX2_isLetter 3 = .ok (.if_icmp .lt 13, 3) := by decide +kernel
theorem dX2_isLetter_6 : decode cX2_isLetter 6 = .ok (.iload_n 0, 1) := by decide +kernel
theorem dX2_isLetter_7 : decode cX2_isLetter 7 = .ok (.bipush 122, 2) := by decide +kernel
theorem dX2_isLetter_9 : decode cX2_isLetter 9 = .ok (.if_icmp .gt 7, 3) := by decide +kernel
theorem dX2_isLetter_12 : decode cX2_isLetter 12 = .ok (.iconst 1, 1) := by decide +kernel
theorem dX2_isLetter_13 : decode cX2_isLetter 13 = .ok (.goto 4, 3) := by decide +kernel
theorem dX2_isLetter_16 : decode cX2_isLetter 16 = .ok (.iconst 0, 1) := by decide +kernel
theorem dX2_isLetter_17 : decode cX2_isLetter 17 = .ok (.ireturn, 1) := by decide +kernel
theorem dX2_readFigure_0 : decode cX2_readFigure 0 = .ok (.aload_n 0, 1) := by decide +kernel
theorem dX2_readFigure_1 : decode cX2_readFigure 1 = .ok (.invokevirtual 34, 3) := by decide +kernel
theorem dX2_readFigure_4 : decode cX2_readFigure 4 = .ok (.bipush 48, 2) := by decide +kernel
theorem dX2_readFigure_6 : decode cX2_readFigure 6 = .ok (.isub, 1) := by decide +kernel
theorem dX2_readFigure_7 : decode cX2_readFigure 7 = .ok (.istore_n 2, 1) := by decide +kernel
theorem dX2_readFigure_8 : decode cX2_readFigure 8 = .ok (.iload_n 2, 1) := by decide +kernel
theorem dX2_readFigure_9 : decode cX2_readFigure 9 = .ok (.ifCond .lt 8, 3) := by decide +kernel
theorem dX2_readFigure_12 : decode cX2_readFigure 12 = .ok (.iload_n 2, 1) := by decide +kernel
theorem dX2_readFigure_13 : decode cX2_readFigure 13 = .ok (.iload_n 1, 1) := by decide +kernel
theorem dX2_readFigure_14 : decode cX2_readFigure 14 = .ok (.if_icmp .lt 13, 3) := by decide +kernel
theorem dX2_readFigure_17 : decode cX2_readFigure 17 = .ok (.aload_n 0, 1) := by decide +kernel
theorem dX2_readFigure_18 : decode cX2_readFigure 18 = .ok (.aload_n 0, 1) := by decide +kernel
theorem dX2_readFigure_19 : decode cX2_readFigure 19 = .ok (.getfield 53, 3) := by decide +kernel
theorem dX2_readFigure_22 : decode cX2_readFigure 22 = .ok (.invokevirtual 56, 3) := by decide +kernel
theorem dX2_readFigure_25 : decode cX2_readFigure 25 = .ok (.iconst 0, 1) := by decide +kernel
theorem dX2_readFigure_26 : decode cX2_readFigure 26 = .ok (.ireturn, 1) := by decide +kernel
theorem dX2_readFigure_27 : decode cX2_readFigure 27 = .ok (.aload_n 0, 1) := by decide +kernel
theorem dX2_readFigure_28 : decode cX2_readFigure 28 = .ok (.dup, 1) := by decide +kernel
theorem dX2_readFigure_29 : decode cX2_readFigure 29 = .ok (.getfield 53, 3) := by decide +kernel
theorem dX2_readFigure_32 : decode cX2_readFigure 32 = .ok (.iconst 1, 1) := by decide +kernel
theorem dX2_readFigure_33 : decode cX2_readFigure 33 = .ok (.iadd, 1) := by decide +kernel
theorem dX2_readFigure_34 : decode cX2_readFigure 34 = .ok (.putfield 53, 3) := by decide +kernel
theorem dX2_readFigure_37 : decode cX2_readFigure 37 = .ok (.iload_n 2, 1) := by decide +kernel
theorem dX2_readFigure_38 : decode cX2_readFigure 38 = .ok (.ireturn, 1) := by decide +kernel
theorem dX2_readFigures_0 : decode cX2_readFigures 0 = .ok (.iconst 0, 1) := by decide +kernel
theorem dX2_readFigures_1 : decode cX2_readFigures 1 = .ok (.istore_n 2, 1) := by decide +kernel
theorem dX2_readFigures_2 : decode cX2_readFigures 2 = .ok (.iconst 0, 1) := by decide +kernel
theorem dX2_readFigures_3 : decode cX2_readFigures 3 = .ok (.istore_n 3, 1) := by decide +kernel
theorem dX2_readFigures_4 : decode cX2_readFigures 4 = .ok (.iload_n 3, 1) := by decide +kernel
theorem dX2_readFigures_5 : decode cX2_readFigures 5 = .ok (.iload_n 1, 1) := by decide +kernel
theorem dX2_readFigures_6 : decode cX2_readFigures 6 = .ok (.if_icmp .ge 50, 3) := by decide +kernel
theorem dX2_readFigures_9 : decode cX2_readFigures 9 = .ok (.aload_n 0, 1) := by decide +kernel
theorem dX2_readFigures_10 : decode cX2_readFigures 10 = .ok (.invokevirtual 34, 3) := by decide +kernel
theorem dX2_readFigures_13 : decode cX2_readFigures 13 = .ok (.bipush 48, 2) := by decide +kernel
theorem dX2_readFigures_15 : decode cX2_readFigures 15 = .ok (.if_icmp .lt 41, 3) := by decide +kernel
theorem dX2_readFigures_18 : decode cX2_readFigures 18 = .ok (.aload_n 0, 1) := by decide +kernel
theorem dX2_readFigures_19 : decode cX2_readFigures 19 = .ok (.invokevirtual 34, 3) := by decide +kernel
theorem dX2_readFigures_22 : decode cX2_readFigures 22 = .ok (.bipush 57, 2) := by decide +kernel
theorem dX2_readFigures_24 : decode cX2_readFigures 24 = .ok (.if_icmp .gt 32, 3) := by decide +kernel
theorem dX2_readFigures_27 : decode cX2_readFigures 27 = .ok (.iload_n 2, 1) := by decide +kernel
theorem dX2_readFigures_28 : decode cX2_readFigures 28 = .ok (.bipush 10, 2) := by decide +kernel
theorem dX2_readFigures_30 : decode cX2_readFigures 30 = .ok (.imul, 1) := by decide +kernel
theorem dX2_readFigures_31 : decode cX2_readFigures 31 = .ok (.aload_n 0, 1) := by decide +kernel
theorem dX2_readFigures_32 : decode cX2_readFigures 32 = .ok (.invokevirtual 34, 3) := by decide +kernel
theorem dX2_readFigures_35 : decode cX2_readFigures 35 = .ok (.iadd, 1) := by decide +kernel
theorem dX2_readFigures_36 : decode cX2_readFigures 36 = .ok (.bipush 48, 2) := by decide +kernel
theorem dX2_readFigures_38 : decode cX2_readFigures 38 = .ok (.isub, 1) := by decide +kernel
theorem dX2_readFigures_39 : decode cX2_readFigures 39 = .ok (.istore_n 2, 1) := by decide +kernel
theorem dX2_readFigures_40 : decode cX2_readFigures 40 = .ok (.aload_n 0, 1) := by decide +kernel
theorem dX2_readFigures_41 : decode cX2_readFigures 41 = .ok (.dup, 1) := by decide +kernel
theorem dX2_readFigures_42 : decode cX2_readFigures 42 = .ok (.getfield 53, 3) := by decide +kernel
theorem dX2_readFigures_45 : decode cX2_readFigures 45 = .ok (.iconst 1, 1) := by decide +kernel
theorem dX2_readFigures_46 : decode cX2_readFigures 46 = .ok (.iadd, 1) := by decide +kernel
theorem dX2_readFigures_47 : decode cX2_readFigures 47 = .ok (.putfield 53, 3) := by decide +kernel
theorem dX2_readFigures_50 : decode cX2_readFigures 50 = .ok (.iinc 3 1, 3) := by decide +kernel
theorem dX2_readFigures_53 : decode cX2_readFigures 53 = .ok (.goto (-49), 3) := by decide +kernel
theorem dX2_readFigures_56 : decode cX2_readFigures 56 = .ok (.iload_n 3, 1) := by decide +kernel
theorem dX2_readFigures_57 : decode cX2_readFigures 57 = .ok (.ifCond .ne 11, 3) := by decide +kernel
theorem dX2_readFigures_60 : decode cX2_readFigures 60 = .ok (.aload_n 0, 1) := by decide +kernel
theorem dX2_readFigures_61 : decode cX2_readFigures 61 = .ok (.aload_n 0, 1) := by decide +kernel
theorem dX2_readFigures_62 : decode cX2_readFigures 62 = .ok (.getfield 53, 3) := by decide +kernel
theorem dX2_readFigures_65 : decode cX2_readFigures 65 = .ok (.invokevirtual 56, 3) := by decide +kernel
theorem dX2_readFigures_68 : decode cX2_readFigures 68 = .ok (.iload_n 2, 1) := by decide +kernel
theorem dX2_readFigures_69 : decode cX2_readFigures 69 = .ok (.ireturn, 1) := by decide +kernel
theorem dX2_readValue_0 : decode cX2_readValue 0 = .ok (.aload_n 0, 1) := by decide +kernel
theorem dX2_readValue_1 : decode cX2_readValue 1 = .ok (.invokevirtual 34, 3) := by decide +kernel
theorem dX2_readValue_4 : decode cX2_readValue 4 = .ok (.bipush 45, 2) := by decide +kernel
theorem dX2_readValue_6 : decode cX2_readValue 6 = .ok (.if_icmp .ne 7, 3) := by decide +kernel
theorem dX2_readValue_9 : decode cX2_readValue 9 = .ok (.iconst 1, 1) := by decide +kernel
theorem dX2_readValue_10 : decode cX2_readValue 10 = .ok (.goto 4, 3) := by decide +kernel
theorem dX2_readValue_13 : decode cX2_readValue 13 = .ok (.iconst 0, 1) := by decide +kernel
theorem dX2_readValue_14 : decode cX2_readValue 14 = .ok (.istore_n 1, 1) := by decide +kernel
theorem dX2_readValue_15 : decode cX2_readValue 15 = .ok (.iload_n 1, 1) := by decide +kernel
theorem dX2_readValue_16 : decode cX2_readValue 16 = .ok (.ifCond .eq 13, 3) := by decide +kernel
theorem dX2_readValue_19 : decode cX2_readValue 19 = .ok (.aload_n 0, 1) := by decide +kernel
theorem dX2_readValue_20 : decode cX2_readValue 20 = .ok (.dup, 1) := by decide +kernel
theorem dX2_readValue_21 : decode cX2_readValue 21 = .ok (.getfield 53, 3) := by decide +kernel
theorem dX2_readValue_24 : decode cX2_readValue 24 = .ok (.iconst 1, 1) := by decide +kernel
theorem dX2_readValue_25 : decode cX2_readValue 25 = .ok (.iadd, 1) := by decide +kernel
theorem dX2_readValue_26 : decode cX2_readValue 26 = .ok (.putfield 53, 3) := by decide +kernel
theorem dX2_readValue_29 : decode cX2_readValue 29 = .ok (.aload_n 0, 1) := by decide +kernel
theorem dX2_readValue_30 : decode cX2_readValue 30 = .ok (.iconst 5, 1) := by decide +kernel
theorem dX2_readValue_31 : decode cX2_readValue 31 = .ok (.invokevirtual 100, 3) := by decide +kernel
theorem dX2_readValue_34 : decode cX2_readValue 34 = .ok (.istore_n 2, 1) := by decide +kernel
theorem dX2_readValue_35 : decode cX2_readValue 35 = .ok (.iload_n 1, 1) := by decide +kernel
theorem dX2_readValue_36 : decode cX2_readValue 36 = .ok (.ifCond .eq 8, 3) := by decide +kernel
theorem dX2_readValue_39 : decode cX2_readValue 39 = .ok (.iload_n 2, 1) := by decide +kernel
theorem dX2_readValue_40 : decode cX2_readValue 40 = .ok (.ineg, 1) := by decide +kernel
theorem dX2_readValue_41 : decode cX2_readValue 41 = .ok (.goto 4, 3) := by decide +kernel
theorem dX2_readValue_44 : decode cX2_readValue 44 = .ok (.iload_n 2, 1) := by decide +kernel
theorem dX2_readValue_45 : decode cX2_readValue 45 = .ok (.ireturn, 1) := by decide +kernel
theorem dX2_readFaultNumber_0 : decode cX2_readFaultNumber 0 = .ok (.aload_n 0, 1) := by decide +kernel
theorem dX2_readFaultNumber_1 : decode cX2_readFaultNumber 1 = .ok (.getfield 53, 3) := by decide +kernel
theorem dX2_readFaultNumber_4 : decode cX2_readFaultNumber 4 = .ok (.istore_n 1, 1) := by decide +kernel
theorem dX2_readFaultNumber_5 : decode cX2_readFaultNumber 5 = .ok (.aload_n 0, 1) := by decide +kernel
theorem dX2_readFaultNumber_6 : decode cX2_readFaultNumber 6 = .ok (.iconst 2, 1) := by decide +kernel
theorem dX2_readFaultNumber_7 : decode cX2_readFaultNumber 7 = .ok (.invokevirtual 100, 3) := by decide +kernel
theorem dX2_readFaultNumber_10 : decode cX2_readFaultNumber 10 = .ok (.istore_n 2, 1) := by decide +kernel
theorem dX2_readFaultNumber_11 : decode cX2_readFaultNumber 11 = .ok (.iload_n 2, 1) := by decide +kernel
theorem dX2_readFaultNumber_12 : decode cX2_readFaultNumber 12 = .ok (.ifCond .ne 8, 3) := by decide +kernel
theorem dX2_readFaultNumber_15 : decode cX2_readFaultNumber 15 = .ok (.aload_n 0, 1) := by decide +kernel
theorem dX2_readFaultNumber_16 : decode cX2_readFaultNumber 16 = .ok (.iload_n 1, 1) := by decide +kernel
theorem dX2_readFaultNumber_17 : decode cX2_readFaultNumber 17 = .ok (.invokevirtual 56, 3) := by decide +kernel
theorem dX2_readFaultNumber_20 : decode cX2_readFaultNumber 20 = .ok (.iload_n 2, 1) := by decide +kernel
theorem dX2_readFaultNumber_21 : decode cX2_readFaultNumber 21 = .ok (.ireturn, 1) := by decide +kernel
theorem dX3_init_0 : decode cX3_init 0 = .ok (.aload_n 0, 1) := by decide +kernel
theorem dX3_init_1 : decode cX3_init 1 = .ok (.invokespecial 3, 3) := by decide +kernel
theorem dX3_init_4 : decode cX3_init 4 = .ok (.aload_n 0, 1) := by decide +kernel
theorem dX3_init_5 : decode cX3_init 5 = .ok (.new 9, 3) := by decide +kernel
theorem dX3_init_8 : decode cX3_init 8 = .ok (.dup, 1) := by decide +kernel
theorem dX3_init_9 : decode cX3_init 9 = .ok (.invokespecial 11, 3) := by decide +kernel
theorem dX3_init_12 : decode cX3_init 12 = .ok (.putfield 12, 3) := by decide +kernel
theorem dX3_init_15 : decode cX3_init 15 = .ok (.aload_n 0, 1) := by decide +kernel
theorem dX3_init_16 : decode cX3_init 16 = .ok (.new 18, 3) := by decide +kernel
theorem dX3_init_19 : decode cX3_init 19 = .ok (.dup, 1) := by decide +kernel
theorem dX3_init_20 : decode cX3_init 20 = .ok (.sipush 160, 3) := by decide +kernel
theorem dX3_init_23 : decode cX3_init 23 = .ok (.invokespecial 20, 3) := by decide +kernel
theorem dX3_init_26 : decode cX3_init 26 = .ok (.putfield 23, 3) := by decide +kernel
theorem dX3_init_29 : decode cX3_init 29 = .ok (.return_, 1) := by decide +kernel
theorem dX3_endInCall_0 : decode cX3_endInCall 0 = .ok (.aload_n 0, 1) := by decide +kernel
theorem dX3_endInCall_1 : decode cX3_endInCall 1 = .ok (.iconst (-1), 1) := by decide +kernel
theorem dX3_endInCall_2 : decode cX3_endInCall 2 = .ok (.putfield 27, 3) := by decide +kernel
theorem dX3_endInCall_5 : decode cX3_endInCall 5 = .ok (.aload_n 0, 1) := by decide +kernel
theorem dX3_endInCall_6 : decode cX3_endInCall 6 = .ok (.getfield 12, 3) := by decide +kernel
theorem dX3_endInCall_9 : decode cX3_endInCall 9 = .ok (.getfield 31, 3) := by decide +kernel
theorem dX3_endInCall_12 : decode cX3_endInCall 12 = .ok (.invokevirtual 35, 3) := by decide +kernel
theorem dX3_endInCall_15 : decode cX3_endInCall 15 = .ok (.aload_n 0, 1) := by decide +kernel
theorem dX3_endInCall_16 : decode cX3_endInCall 16 = .ok (.iload_n 1, 1) := by decide +kernel
theorem dX3_endInCall_17 : decode cX3_endInCall 17 = .ok (.invokevirtual 40, 3) := by decide +kernel
theorem dX3_endInCall_20 : decode cX3_endInCall 20 = .ok (.aload_n 0, 1) := by decide +kernel
theorem dX3_endInCall_21 : decode cX3_endInCall 21 = .ok (.invokevirtual 43, 3) := by decide +kernel
theorem dX3_endInCall_24 : decode cX3_endInCall 24 = .ok (.aload_n 0, 1) := by decide +kernel
theorem dX3_endInCall_25 : decode cX3_endInCall 25 = .ok (.getfield 12, 3) := by decide +kernel
theorem dX3_endInCall_28 : decode cX3_endInCall 28 = .ok (.iconst (-1), 1) := by decide +kernel
theorem dX3_endInCall_29 : decode cX3_endInCall 29 = .ok (.invokevirtual 46, 3) := by decide +kernel
theorem dX3_endInCall_32 : decode cX3_endInCall 32 = .ok (.ireturn, 1) := by decide +kernel
theorem dX3_tickUpTo_0 : decode cX3_tickUpTo 0 = .ok (.iconst 0, 1) := by decide +kernel
theorem dX3_tickUpTo_1 : decode cX3_tickUpTo 1 = .ok (.istore_n 2, 1) := by decide +kernel
theorem dX3_tickUpTo_2 : decode cX3_tickUpTo 2 = .ok (.iload_n 2, 1) := by decide +kernel
theorem dX3_tickUpTo_3 : decode cX3_tickUpTo 3 = .ok (.iload_n 1, 1) := by decide +kernel
theorem dX3_tickUpTo_4 : decode cX3_tickUpTo 4 = .ok (.if_icmp .ge 20, 3) := by decide +kernel
theorem dX3_tickUpTo_7 : decode cX3_tickUpTo 7 = .ok (.aload_n 0, 1) := by decide +kernel
theorem dX3_tickUpTo_8 : decode cX3_tickUpTo 8 = .ok (.invokevirtual 50, 3) := by decide +kernel
theorem dX3_tickUpTo_11 : decode cX3_tickUpTo 11 = .ok (.ifCond .lt 13, 3) := by decide +kernel
theorem dX3_tickUpTo_14 : decode cX3_tickUpTo 14 = .ok (.aload_n 0, 1) := by decide +kernel
theorem dX3_tickUpTo_15 : decode cX3_tickUpTo 15 = .ok (.invokevirtual 43, 3) := by decide +kernel
theorem dX3_tickUpTo_18 : decode cX3_tickUpTo 18 = .ok (.iinc 2 1, 3) := by decide +kernel
theorem dX3_tickUpTo_21 : decode cX3_tickUpTo 21 = .ok (.goto (-19), 3) := by decide +kernel
theorem dX3_tickUpTo_24 : decode cX3_tickUpTo 24 = .ok (.iload_n 2, 1) := by decide +kernel
theorem dX3_tickUpTo_25 : decode cX3_tickUpTo 25 = .ok (.ireturn, 1) := by decide +kernel
theorem dX3_tickOnce_0 : decode cX3_tickOnce 0 = .ok (.aload_n 0, 1) := by decide +kernel
theorem dX3_tickOnce_1 : decode cX3_tickOnce 1 = .ok (.invokevirtual 50, 3) := by decide +kernel
theorem dX3_tickOnce_4 : decode cX3_tickOnce 4 = .ok (.istore_n 1, 1) := by decide +kernel
theorem dX3_tickOnce_5 : decode cX3_tickOnce 5 = .ok (.aload_n 0, 1) := by decide +kernel
theorem dX3_tickOnce_6 : decode cX3_tickOnce 6 = .ok (.invokevirtual 43, 3) := by decide +kernel
theorem dX3_tickOnce_9 : decode cX3_tickOnce 9 = .ok (.iload_n 1, 1) := by decide +kernel
theorem dX3_tickOnce_10 : decode cX3_tickOnce 10 = .ok (.ireturn, 1) := by decide +kernel
theorem dX3_beginTurn_0 : decode cX3_beginTurn 0 = .ok (.aload_n 0, 1) := by decide +kernel
theorem dX3_beginTurn_1 : decode cX3_beginTurn 1 = .ok (.getfield 12, 3) := by decide +kernel
theorem dX3_beginTurn_4 : decode cX3_beginTurn 4 = .ok (.iconst 0, 1) := by decide +kernel
theorem dX3_beginTurn_5 : decode cX3_beginTurn 5 = .ok (.invokevirtual 54, 3) := by decide +kernel
theorem dX3_beginTurn_8 : decode cX3_beginTurn 8 = .ok (.istore_n 1, 1) := by decide +kernel
theorem dX3_beginTurn_9 : decode cX3_beginTurn 9 = .ok (.aload_n 0, 1) := by decide +kernel
theorem dX3_beginTurn_10 : decode cX3_beginTurn 10 = .ok (.getfield 12, 3) := by decide +kernel
theorem dX3_beginTurn_13 : decode cX3_beginTurn 13 = .ok (.iload_n 1, 1) := by decide +kernel
theorem dX3_beginTurn_14 : decode cX3_beginTurn 14 = .ok (.invokevirtual 57, 3) := by decide +kernel
theorem dX3_beginTurn_17 : decode cX3_beginTurn 17 = .ok (.astore_n 2, 1) := by decide +kernel
theorem dX3_beginTurn_18 : decode cX3_beginTurn 18 = .ok (.aload_n 2, 1) := by decide +kernel
theorem dX3_beginTurn_19 : decode cX3_beginTurn 19 = .ok (.ifnonnull 6, 3) := by decide +kernel
theorem dX3_beginTurn_22 : decode cX3_beginTurn 22 = .ok (.bipush (-5), 2) := by decide +kernel
theorem dX3_beginTurn_24 : decode cX3_beginTurn 24 = .ok (.ireturn, 1) := by decide +kernel
theorem dX3_beginTurn_25 : decode cX3_beginTurn 25 = .ok (.aload_n 0, 1) := by decide +kernel
theorem dX3_beginTurn_26 : decode cX3_beginTurn 26 = .ok (.getfield 12, 3) := by decide +kernel
theorem dX3_beginTurn_29 : decode cX3_beginTurn 29 = .ok (.dup, 1) := by decide +kernel
theorem dX3_beginTurn_30 : decode cX3_beginTurn 30 = .ok (.getfield 61, 3) := by decide +kernel
theorem dX3_beginTurn_33 : decode cX3_beginTurn 33 = .ok (.iconst 1, 1) := by decide +kernel
theorem dX3_beginTurn_34 : decode cX3_beginTurn 34 = .ok (.iadd, 1) := by decide +kernel
theorem dX3_beginTurn_35 : decode cX3_beginTurn 35 = .ok (.putfield 61, 3) := by decide +kernel
theorem dX3_beginTurn_38 : decode cX3_beginTurn 38 = .ok (.aload_n 2, 1) := by decide +kernel
theorem dX3_beginTurn_39 : decode cX3_beginTurn 39 = .ok (.dup, 1) := by decide +kernel
theorem dX3_beginTurn_40 : decode cX3_beginTurn 40 = .ok (.getfield 64, 3) := by decide +kernel
theorem dX3_beginTurn_43 : decode cX3_beginTurn 43 = .ok (.iconst 1, 1) := by decide +kernel
theorem dX3_beginTurn_44 : decode cX3_beginTurn 44 = .ok (.iadd, 1) := by decide +kernel
theorem dX3_beginTurn_45 : decode cX3_beginTurn 45 = .ok (.putfield 64, 3) := by decide +kernel
theorem dX3_beginTurn_48 : decode cX3_beginTurn 48 = .ok (.aload_n 2, 1) := by decide +kernel
theorem dX3_beginTurn_49 : decode cX3_beginTurn 49 = .ok (.aload_n 0, 1) := by decide +kernel
theorem dX3_beginTurn_50 : decode cX3_beginTurn 50 = .ok (.getfield 12, 3) := by decide +kernel
theorem dX3_beginTurn_53 : decode cX3_beginTurn 53 = .ok (.getfield 61, 3) := by decide +kernel
theorem dX3_beginTurn_56 : decode cX3_beginTurn 56 = .ok (.putfield 67, 3) := by decide +kernel
theorem dX3_beginTurn_59 : decode cX3_beginTurn 59 = .ok (.aload_n 2, 1) := by decide +kernel
theorem dX3_beginTurn_60 : decode cX3_beginTurn 60 = .ok (.getfield 70, 3) := by decide +kernel
theorem dX3_beginTurn_63 : decode cX3_beginTurn 63 = .ok (.ifCond .ne 17, 3) := by decide +kernel
theorem dX3_beginTurn_66 : decode cX3_beginTurn 66 = .ok (.aload_n 0, 1) := by decide +kernel
theorem dX3_beginTurn_67 : decode cX3_beginTurn 67 = .ok (.getfield 12, 3) := by decide +kernel
theorem dX3_beginTurn_70 : decode cX3_beginTurn 70 = .ok (.aload_n 2, 1) := by decide +kernel
theorem dX3_beginTurn_71 : decode cX3_beginTurn 71 = .ok (.getfield 74, 3) := by decide +kernel
theorem dX3_beginTurn_74 : decode cX3_beginTurn 74 = .ok (.invokevirtual 77, 3) := by decide +kernel
theorem dX3_beginTurn_77 : decode cX3_beginTurn 77 = .ok (.ifCond .ne 8, 3) := by decide +kernel
theorem dX3_beginTurn_80 : decode cX3_beginTurn 80 = .ok (.aload_n 2, 1) := by decide +kernel
theorem dX3_beginTurn_81 : decode cX3_beginTurn 81 = .ok (.iconst 3, 1) := by decide +kernel
theorem dX3_beginTurn_82 : decode cX3_beginTurn 82 = .ok (.putfield 81, 3) := by decide +kernel
theorem dX3_beginTurn_85 : decode cX3_beginTurn 85 = .ok (.aload_n 0, 1) := by decide +kernel
theorem dX3_beginTurn_86 : decode cX3_beginTurn 86 = .ok (.iload_n 1, 1) := by decide +kernel
theorem dX3_beginTurn_87 : decode cX3_beginTurn 87 = .ok (.putfield 27, 3) := by decide +kernel
theorem dX3_beginTurn_90 : decode cX3_beginTurn 90 = .ok (.aload_n 0, 1) := by decide +kernel
theorem dX3_beginTurn_91 : decode cX3_beginTurn 91 = .ok (.getfield 23, 3) := by decide +kernel
theorem dX3_beginTurn_94 : decode cX3_beginTurn 94 = .ok (.sipush 200, 3) := by decide +kernel
theorem dX3_beginTurn_97 : decode cX3_beginTurn 97 = .ok (.iload_n 1, 1) := by decide +kernel
theorem dX3_beginTurn_98 : decode cX3_beginTurn 98 = .ok (.iadd, 1) := by decide +kernel
theorem dX3_beginTurn_99 : decode cX3_beginTurn 99 = .ok (.invokevirtual 84, 3) := by decide +kernel
theorem dX3_beginTurn_102 : decode cX3_beginTurn 102 = .ok (.pop, 1) := by decide +kernel
theorem dX3_beginTurn_103 : decode cX3_beginTurn 103 = .ok (.iload_n 1, 1) := by decide +kernel
theorem dX3_beginTurn_104 : decode cX3_beginTurn 104 = .ok (.ireturn, 1) := by decide +kernel
theorem dX3_work_0 : decode cX3_work 0 = .ok (.iconst 0, 1) := by decide +kernel
theorem dX3_work_1 : decode cX3_work 1 = .ok (.istore_n 1, 1) := by decide +kernel
theorem dX3_work_2 : decode cX3_work 2 = .ok (.iload_n 1, 1) := by decide +kernel
theorem dX3_work_3 : decode cX3_work 3 = .ok (.ldc 87, 2) := by decide +kernel
theorem dX3_work_5 : decode cX3_work 5 = .ok (.if_icmp .ge 77, 3) := by decide +kernel
theorem dX3_work_8 : decode cX3_work 8 = .ok (.aload_n 0, 1) := by decide +kernel
theorem dX3_work_9 : decode cX3_work 9 = .ok (.getfield 23, 3) := by decide +kernel
theorem dX3_work_12 : decode cX3_work 12 = .ok (.getfield 88, 3) := by decide +kernel
theorem dX3_work_15 : decode cX3_work 15 = .ok (.ifCond .le 67, 3) := by decide +kernel
theorem dX3_work_18 : decode cX3_work 18 = .ok (.aload_n 0, 1) := by decide +kernel
theorem dX3_work_19 : decode cX3_work 19 = .ok (.getfield 23, 3) := by decide +kernel
theorem dX3_work_22 : decode cX3_work 22 = .ok (.aload_n 0, 1) := by decide +kernel
theorem dX3_work_23 : decode cX3_work 23 = .ok (.getfield 23, 3) := by decide +kernel
theorem dX3_work_26 : decode cX3_work 26 = .ok (.getfield 88, 3) := by decide +kernel
theorem dX3_work_29 : decode cX3_work 29 = .ok (.iconst 1, 1) := by decide +kernel
theorem dX3_work_30 : decode cX3_work 30 = .ok (.isub, 1) := by decide +kernel
theorem dX3_work_31 : decode cX3_work 31 = .ok (.invokevirtual 91, 3) := by decide +kernel
theorem dX3_work_34 : decode cX3_work 34 = .ok (.istore_n 2, 1) := by decide +kernel
theorem dX3_work_35 : decode cX3_work 35 = .ok (.iload_n 2, 1) := by decide +kernel
theorem dX3_work_36 : decode cX3_work 36 = .ok (.sipush 200, 3) := by decide +kernel
theorem dX3_work_39 : decode cX3_work 39 = .ok (.if_icmp .lt 15, 3) := by decide +kernel
theorem dX3_work_42 : decode cX3_work 42 = .ok (.aload_n 0, 1) := by decide +kernel
theorem dX3_work_43 : decode cX3_work 43 = .ok (.iload_n 2, 1) := by decide +kernel
theorem dX3_work_44 : decode cX3_work 44 = .ok (.sipush 200, 3) := by decide +kernel
theorem dX3_work_47 : decode cX3_work 47 = .ok (.isub, 1) := by decide +kernel
theorem dX3_work_48 : decode cX3_work 48 = .ok (.invokevirtual 94, 3) := by decide +kernel
theorem dX3_work_51 : decode cX3_work 51 = .ok (.goto 25, 3) := by decide +kernel
theorem dX3_work_54 : decode cX3_work 54 = .ok (.iload_n 2, 1) := by decide +kernel
theorem dX3_work_55 : decode cX3_work 55 = .ok (.bipush 100, 2) := by decide +kernel
theorem dX3_work_57 : decode cX3_work 57 = .ok (.if_icmp .lt 14, 3) := by decide +kernel
theorem dX3_work_60 : decode cX3_work 60 = .ok (.aload_n 0, 1) := by decide +kernel
theorem dX3_work_61 : decode cX3_work 61 = .ok (.iload_n 2, 1) := by decide +kernel
theorem dX3_work_62 : decode cX3_work 62 = .ok (.bipush 100, 2) := by decide +kernel
theorem dX3_work_64 : decode cX3_work 64 = .ok (.isub, 1) := by decide +kernel
theorem dX3_work_65 : decode cX3_work 65 = .ok (.invokevirtual 97, 3) := by decide +kernel
theorem dX3_work_68 : decode cX3_work 68 = .ok (.goto 8, 3) := by decide +kernel
theorem dX3_work_71 : decode cX3_work 71 = .ok (.aload_n 0, 1) := by decide +kernel
theorem dX3_work_72 : decode cX3_work 72 = .ok (.iload_n 2, 1) := by decide +kernel
theorem dX3_work_73 : decode cX3_work 73 = .ok (.invokevirtual 100, 3) := by decide +kernel
theorem dX3_work_76 : decode cX3_work 76 = .ok (.iinc 1 1, 3) := by decide +kernel
theorem dX3_work_79 : decode cX3_work 79 = .ok (.goto (-77), 3) := by decide +kernel
theorem dX3_work_82 : decode cX3_work 82 = .ok (.aload_n 0, 1) := by decide +kernel
theorem dX3_work_83 : decode cX3_work 83 = .ok (.getfield 23, 3) := by decide +kernel
theorem dX3_work_86 : decode cX3_work 86 = .ok (.iconst 0, 1) := by decide +kernel
theorem dX3_work_87 : decode cX3_work 87 = .ok (.putfield 88, 3) := by decide +kernel
theorem dX3_work_90 : decode cX3_work 90 = .ok (.return_, 1) := by decide +kernel
theorem dX3_leave_0 : decode cX3_leave 0 = .ok (.aload_n 0, 1) := by decide +kernel
theorem dX3_leave_1 : decode cX3_leave 1 = .ok (.getfield 23, 3) := by decide +kernel
theorem dX3_leave_4 : decode cX3_leave 4 = .ok (.getfield 88, 3) := by decide +kernel
theorem dX3_leave_7 : decode cX3_leave 7 = .ok (.ifCond .le 16, 3) := by decide +kernel
theorem dX3_leave_10 : decode cX3_leave 10 = .ok (.aload_n 0, 1) := by decide +kernel
theorem dX3_leave_11 : decode cX3_leave 11 = .ok (.getfield 23, 3) := by decide +kernel
theorem dX3_leave_14 : decode cX3_leave 14 = .ok (.dup, 1) := by decide +kernel
theorem dX3_leave_15 : decode cX3_leave 15 = .ok (.getfield 88, 3) := by decide +kernel
theorem dX3_leave_18 : decode cX3_leave 18 = .ok (.iconst 1, 1) := by decide +kernel
theorem dX3_leave_19 : decode cX3_leave 19 = .ok (.isub, 1) := by decide +kernel
theorem dX3_leave_20 : decode cX3_leave 20 = .ok (.putfield 88, 3) := by decide +kernel
theorem dX3_leave_23 : decode cX3_leave 23 = .ok (.return_, 1) := by decide +kernel
theorem dX3_beginToEnd_0 : decode cX3_beginToEnd 0 = .ok (.iload_n 1, 1) := by decide +kernel
theorem dX3_beginToEnd_1 : decode cX3_beginToEnd 1 = .ok (.bipush 100, 2) := by decide +kernel
theorem dX3_beginToEnd_3 : decode cX3_beginToEnd 3 = .ok (.if_icmp .lt 27, 3) := by decide +kernel
theorem dX3_beginToEnd_6 : decode cX3_beginToEnd 6 = .ok (.aload_n 0, 1) := by decide +kernel
theorem dX3_beginToEnd_7 : decode cX3_beginToEnd 7 = .ok (.getfield 12, 3) := by decide +kernel
theorem dX3_beginToEnd_10 : decode cX3_beginToEnd 10 = .ok (.iload_n 1, 1) := by decide +kernel
theorem dX3_beginToEnd_11 : decode cX3_beginToEnd 11 = .ok (.bipush 100, 2) := by decide +kernel
theorem dX3_beginToEnd_13 : decode cX3_beginToEnd 13 = .ok (.isub, 1) := by decide +kernel
theorem dX3_beginToEnd_14 : decode cX3_beginToEnd 14 = .ok (.invokevirtual 103, 3) := by decide +kernel
theorem dX3_beginToEnd_17 : decode cX3_beginToEnd 17 = .ok (.astore_n 2, 1) := by decide +kernel
theorem dX3_beginToEnd_18 : decode cX3_beginToEnd 18 = .ok (.aload_n 2, 1) := by decide +kernel
theorem dX3_beginToEnd_19 : decode cX3_beginToEnd 19 = .ok (.ifnull 8, 3) := by decide +kernel
theorem dX3_beginToEnd_22 : decode cX3_beginToEnd 22 = .ok (.aload_n 2, 1) := by decide +kernel
theorem dX3_beginToEnd_23 : decode cX3_beginToEnd 23 = .ok (.iconst 2, 1) := by decide +kernel
theorem dX3_beginToEnd_24 : decode cX3_beginToEnd 24 = .ok (.putfield 107, 3) := by decide +kernel
theorem dX3_beginToEnd_27 : decode cX3_beginToEnd 27 = .ok (.goto 29, 3) := by decide +kernel
theorem dX3_beginToEnd_30 : decode cX3_beginToEnd 30 = .ok (.aload_n 0, 1) := by decide +kernel
theorem dX3_beginToEnd_31 : decode cX3_beginToEnd 31 = .ok (.getfield 12, 3) := by decide +kernel
theorem dX3_beginToEnd_34 : decode cX3_beginToEnd 34 = .ok (.iload_n 1, 1) := by decide +kernel
theorem dX3_beginToEnd_35 : decode cX3_beginToEnd 35 = .ok (.invokevirtual 110, 3) := by decide +kernel
theorem dX3_beginToEnd_38 : decode cX3_beginToEnd 38 = .ok (.astore_n 2, 1) := by decide +kernel
theorem dX3_beginToEnd_39 : decode cX3_beginToEnd 39 = .ok (.aload_n 2, 1) := by decide +kernel
theorem dX3_beginToEnd_40 : decode cX3_beginToEnd 40 = .ok (.ifnull 16, 3) := by decide +kernel
theorem dX3_beginToEnd_43 : decode cX3_beginToEnd 43 = .ok (.aload_n 2, 1) := by decide +kernel
theorem dX3_beginToEnd_44 : decode cX3_beginToEnd 44 = .ok (.iconst 2, 1) := by decide +kernel
theorem dX3_beginToEnd_45 : decode cX3_beginToEnd 45 = .ok (.putfield 114, 3) := by decide +kernel
theorem dX3_beginToEnd_48 : decode cX3_beginToEnd 48 = .ok (.aload_n 2, 1) := by decide +kernel
theorem dX3_beginToEnd_49 : decode cX3_beginToEnd 49 = .ok (.aload_n 2, 1) := by decide +kernel
theorem dX3_beginToEnd_50 : decode cX3_beginToEnd 50 = .ok (.getfield 117, 3) := by decide +kernel
theorem dX3_beginToEnd_53 : decode cX3_beginToEnd 53 = .ok (.putfield 121, 3) := by decide +kernel
theorem dX3_beginToEnd_56 : decode cX3_beginToEnd 56 = .ok (.aload_n 0, 1) := by decide +kernel
theorem dX3_beginToEnd_57 : decode cX3_beginToEnd 57 = .ok (.getfield 23, 3) := by decide +kernel
theorem dX3_beginToEnd_60 : decode cX3_beginToEnd 60 = .ok (.iload_n 1, 1) := by decide +kernel
theorem dX3_beginToEnd_61 : decode cX3_beginToEnd 61 = .ok (.invokevirtual 84, 3) := by decide +kernel
theorem dX3_beginToEnd_64 : decode cX3_beginToEnd 64 = .ok (.pop, 1) := by decide +kernel
theorem dX3_beginToEnd_65 : decode cX3_beginToEnd 65 = .ok (.return_, 1) := by decide +kernel
theorem dX3_goOnClosing_0 : decode cX3_goOnClosing 0 = .ok (.aload_n 0, 1) := by decide +kernel
theorem dX3_goOnClosing_1 : decode cX3_goOnClosing 1 = .ok (.getfield 12, 3) := by decide +kernel
theorem dX3_goOnClosing_4 : decode cX3_goOnClosing 4 = .ok (.iload_n 1, 1) := by decide +kernel
theorem dX3_goOnClosing_5 : decode cX3_goOnClosing 5 = .ok (.invokevirtual 110, 3) := by decide +kernel
theorem dX3_goOnClosing_8 : decode cX3_goOnClosing 8 = .ok (.astore_n 2, 1) := by decide +kernel
theorem dX3_goOnClosing_9 : decode cX3_goOnClosing 9 = .ok (.aload_n 2, 1) := by decide +kernel
theorem dX3_goOnClosing_10 : decode cX3_goOnClosing 10 = .ok (.ifnonnull 8, 3) := by decide +kernel
theorem dX3_goOnClosing_18 : decode cX3_goOnClosing 18 = .ok (.aload_n 2, 1) := by decide +kernel
theorem dX3_goOnClosing_19 : decode cX3_goOnClosing 19 = .ok (.getfield 121, 3) := by decide +kernel
theorem dX3_goOnClosing_22 : decode cX3_goOnClosing 22 = .ok (.astore_n 3, 1) := by decide +kernel
theorem dX3_goOnClosing_23 : decode cX3_goOnClosing 23 = .ok (.aload_n 3, 1) := by decide +kernel
theorem dX3_goOnClosing_24 : decode cX3_goOnClosing 24 = .ok (.ifnonnull 50, 3) := by decide +kernel
theorem dX3_goOnClosing_27 : decode cX3_goOnClosing 27 = .ok (.aload_n 2, 1) := by decide +kernel
theorem dX3_goOnClosing_28 : decode cX3_goOnClosing 28 = .ok (.iconst 1, 1) := by decide +kernel
theorem dX3_goOnClosing_29 : decode cX3_goOnClosing 29 = .ok (.putfield 114, 3) := by decide +kernel
theorem dX3_goOnClosing_32 : decode cX3_goOnClosing 32 = .ok (.aload_n 2, 1) := by decide +kernel
theorem dX3_goOnClosing_33 : decode cX3_goOnClosing 33 = .ok (.aload_n 0, 1) := by decide +kernel
theorem dX3_goOnClosing_34 : decode cX3_goOnClosing 34 = .ok (.getfield 12, 3) := by decide +kernel
theorem dX3_goOnClosing_37 : decode cX3_goOnClosing 37 = .ok (.getfield 127, 3) := by decide +kernel
theorem dX3_goOnClosing_40 : decode cX3_goOnClosing 40 = .ok (.getfield 88, 3) := by decide +kernel
theorem dX3_goOnClosing_43 : decode cX3_goOnClosing 43 = .ok (.putfield 130, 3) := by decide +kernel
theorem dX3_goOnClosing_46 : decode cX3_goOnClosing 46 = .ok (.aload_n 0, 1) := by decide +kernel
theorem dX3_goOnClosing_47 : decode cX3_goOnClosing 47 = .ok (.getfield 12, 3) := by decide +kernel
theorem dX3_goOnClosing_50 : decode cX3_goOnClosing 50 = .ok (.getfield 127, 3) := by decide +kernel
theorem dX3_goOnClosing_53 : decode cX3_goOnClosing 53 = .ok (.iload_n 1, 1) := by decide +kernel
theorem dX3_goOnClosing_54 : decode cX3_goOnClosing 54 = .ok (.invokevirtual 84, 3) := by decide +kernel
theorem dX3_goOnClosing_57 : decode cX3_goOnClosing 57 = .ok (.pop, 1) := by decide +kernel
theorem dX3_goOnClosing_58 : decode cX3_goOnClosing 58 = .ok (.aload_n 0, 1) := by decide +kernel
theorem dX3_goOnClosing_59 : decode cX3_goOnClosing 59 = .ok (.getfield 12, 3) := by decide +kernel
theorem dX3_goOnClosing_62 : decode cX3_goOnClosing 62 = .ok (.getfield 133, 3) := by decide +kernel
theorem dX3_goOnClosing_65 : decode cX3_goOnClosing 65 = .ok (.iload_n 1, 1) := by decide +kernel
theorem dX3_goOnClosing_66 : decode cX3_goOnClosing 66 = .ok (.invokevirtual 136, 3) := by decide +kernel
theorem dX3_goOnClosing_69 : decode cX3_goOnClosing 69 = .ok (.aload_n 0, 1) := by decide +kernel
theorem dX3_goOnClosing_70 : decode cX3_goOnClosing 70 = .ok (.invokevirtual 124, 3) := by decide +kernel
theorem dX3_goOnClosing_73 : decode cX3_goOnClosing 73 = .ok (.return_, 1) := by decide +kernel
theorem dX3_goOnClosing_74 : decode cX3_goOnClosing 74 = .ok (.aload_n 2, 1) := by decide +kernel
theorem dX3_goOnClosing_75 : decode cX3_goOnClosing 75 = .ok (.aload_n 3, 1) := by decide +kernel
theorem dX3_goOnClosing_76 : decode cX3_goOnClosing 76 = .ok (.getfield 139, 3) := by decide +kernel
theorem dX3_goOnClosing_79 : decode cX3_goOnClosing 79 = .ok (.putfield 121, 3) := by decide +kernel
theorem dX3_goOnClosing_82 : decode cX3_goOnClosing 82 = .ok (.aload_n 0, 1) := by decide +kernel
theorem dX3_goOnClosing_83 : decode cX3_goOnClosing 83 = .ok (.aload_n 3, 1) := by decide +kernel
theorem dX3_goOnClosing_84 : decode cX3_goOnClosing 84 = .ok (.aload_n 2, 1) := by decide +kernel
theorem dX3_goOnClosing_85 : decode cX3_goOnClosing 85 = .ok (.getfield 144, 3) := by decide +kernel
theorem dX3_goOnClosing_88 : decode cX3_goOnClosing 88 = .ok (.invokevirtual 147, 3) := by decide +kernel
theorem dX3_goOnClosing_91 : decode cX3_goOnClosing 91 = .ok (.istore 4, 2) := by decide +kernel
theorem dX3_goOnClosing_93 : decode cX3_goOnClosing 93 = .ok (.iload 4, 2) := by decide +kernel
theorem dX3_goOnClosing_95 : decode cX3_goOnClosing 95 = .ok (.ifCond .eq 25, 3) := by decide +kernel
theorem dX3_goOnClosing_98 : decode cX3_goOnClosing 98 = .ok (.aload_n 0, 1) := by decide +kernel
theorem dX3_goOnClosing_99 : decode cX3_goOnClosing 99 = .ok (.getfield 12, 3) := by decide +kernel
theorem dX3_goOnClosing_102 : decode cX3_goOnClosing 102 = .ok (.getfield 31, 3) := by decide +kernel
theorem dX3_goOnClosing_105 : decode cX3_goOnClosing 105 = .ok (.iload 4, 2) := by decide +kernel
theorem dX3_goOnClosing_107 : decode cX3_goOnClosing 107 = .ok (.iload_n 1, 1) := by decide +kernel
theorem dX3_goOnClosing_108 : decode cX3_goOnClosing 108 = .ok (.aload_n 0, 1) := by decide +kernel
theorem dX3_goOnClosing_109 : decode cX3_goOnClosing 109 = .ok (.getfield 27, 3) := by decide +kernel
theorem dX3_goOnClosing_112 : decode cX3_goOnClosing 112 = .ok (.invokevirtual 151, 3) := by decide +kernel
theorem dX3_goOnClosing_115 : decode cX3_goOnClosing 115 = .ok (.aload_n 2, 1) := by decide +kernel
theorem dX3_goOnClosing_116 : decode cX3_goOnClosing 116 = .ok (.aconst_null, 1) := by decide +kernel
theorem dX3_goOnClosing_117 : decode cX3_goOnClosing 117 = .ok (.putfield 121, 3) := by decide +kernel
theorem dX3_goOnClosing_120 : decode cX3_goOnClosing 120 = .ok (.return_, 1) := by decide +kernel
theorem dX3_goOnShutting_0 : decode cX3_goOnShutting 0 = .ok (.aload_n 0, 1) := by decide +kernel
theorem dX3_goOnShutting_1 : decode cX3_goOnShutting 1 = .ok (.getfield 12, 3) := by decide +kernel
theorem dX3_goOnShutting_4 : decode cX3_goOnShutting 4 = .ok (.iload_n 1, 1) := by decide +kernel
theorem dX3_goOnShutting_5 : decode cX3_goOnShutting 5 = .ok (.invokevirtual 155, 3) := by decide +kernel
theorem dX3_goOnShutting_8 : decode cX3_goOnShutting 8 = .ok (.istore_n 2, 1) := by decide +kernel
theorem dX3_goOnShutting_9 : decode cX3_goOnShutting 9 = .ok (.iload_n 2, 1) := by decide +kernel
theorem dX3_goOnShutting_10 : decode cX3_goOnShutting 10 = .ok (.ifCond .lt 9, 3) := by decide +kernel
theorem dX3_goOnShutting_13 : decode cX3_goOnShutting 13 = .ok (.aload_n 0, 1) := by decide +kernel
theorem dX3_goOnShutting_14 : decode cX3_goOnShutting 14 = .ok (.iload_n 2, 1) := by decide +kernel
theorem dX3_goOnShutting_15 : decode cX3_goOnShutting 15 = .ok (.invokevirtual 40, 3) := by decide +kernel
theorem dX3_goOnShutting_18 : decode cX3_goOnShutting 18 = .ok (.return_, 1) := by decide +kernel
theorem dX3_goOnShutting_19 : decode cX3_goOnShutting 19 = .ok (.aload_n 0, 1) := by decide +kernel
theorem dX3_goOnShutting_20 : decode cX3_goOnShutting 20 = .ok (.getfield 12, 3) := by decide +kernel
theorem dX3_goOnShutting_23 : decode cX3_goOnShutting 23 = .ok (.iload_n 1, 1) := by decide +kernel
theorem dX3_goOnShutting_24 : decode cX3_goOnShutting 24 = .ok (.invokevirtual 103, 3) := by decide +kernel
theorem dX3_goOnShutting_27 : decode cX3_goOnShutting 27 = .ok (.astore_n 3, 1) := by decide +kernel
theorem dX3_goOnShutting_28 : decode cX3_goOnShutting 28 = .ok (.aload_n 3, 1) := by decide +kernel
theorem dX3_goOnShutting_29 : decode cX3_goOnShutting 29 = .ok (.ifnull 30, 3) := by decide +kernel
theorem dX3_goOnShutting_32 : decode cX3_goOnShutting 32 = .ok (.aload_n 3, 1) := by decide +kernel
theorem dX3_goOnShutting_33 : decode cX3_goOnShutting 33 = .ok (.iload_n 1, 1) := by decide +kernel
theorem dX3_goOnShutting_34 : decode cX3_goOnShutting 34 = .ok (.ifCond .ne 7, 3) := by decide +kernel
theorem dX3_goOnShutting_37 : decode cX3_goOnShutting 37 = .ok (.iconst 0, 1) := by decide +kernel
theorem dX3_goOnShutting_38 : decode cX3_goOnShutting 38 = .ok (.goto 4, 3) := by decide +kernel
theorem dX3_goOnShutting_41 : decode cX3_goOnShutting 41 = .ok (.iconst 1, 1) := by decide +kernel
theorem dX3_goOnShutting_42 : decode cX3_goOnShutting 42 = .ok (.putfield 107, 3) := by decide +kernel
theorem dX3_goOnShutting_45 : decode cX3_goOnShutting 45 = .ok (.aload_n 0, 1) := by decide +kernel
theorem dX3_goOnShutting_46 : decode cX3_goOnShutting 46 = .ok (.getfield 12, 3) := by decide +kernel
theorem dX3_goOnShutting_49 : decode cX3_goOnShutting 49 = .ok (.getfield 133, 3) := by decide +kernel
theorem dX3_goOnShutting_52 : decode cX3_goOnShutting 52 = .ok (.bipush 100, 2) := by decide +kernel
theorem dX3_goOnShutting_54 : decode cX3_goOnShutting 54 = .ok (.iload_n 1, 1) := by decide +kernel
theorem dX3_goOnShutting_55 : decode cX3_goOnShutting 55 = .ok (.iadd, 1) := by decide +kernel
theorem dX3_goOnShutting_56 : decode cX3_goOnShutting 56 = .ok (.invokevirtual 136, 3) := by decide +kernel
theorem dX3_goOnShutting_59 : decode cX3_goOnShutting 59 = .ok (.aload_n 0, 1) := by decide +kernel
theorem dX3_goOnShutting_60 : decode cX3_goOnShutting 60 = .ok (.invokevirtual 124, 3) := by decide +kernel
theorem dX3_goOnShutting_63 : decode cX3_goOnShutting 63 = .ok (.return_, 1) := by decide +kernel
theorem dX3_goOnWithTask_0 : decode cX3_goOnWithTask 0 = .ok (.aload_n 0, 1) := by decide +kernel
theorem dX3_goOnWithTask_1 : decode cX3_goOnWithTask 1 = .ok (.getfield 12, 3) := by decide +kernel
theorem dX3_goOnWithTask_4 : decode cX3_goOnWithTask 4 = .ok (.iload_n 1, 1) := by decide +kernel
theorem dX3_goOnWithTask_5 : decode cX3_goOnWithTask 5 = .ok (.invokevirtual 57, 3) := by decide +kernel
theorem dX3_goOnWithTask_8 : decode cX3_goOnWithTask 8 = .ok (.astore_n 2, 1) := by decide +kernel
theorem dX3_goOnWithTask_9 : decode cX3_goOnWithTask 9 = .ok (.aload_n 2, 1) := by decide +kernel
theorem dX3_goOnWithTask_10 : decode cX3_goOnWithTask 10 = .ok (.ifnonnull 8, 3) := by decide +kernel
theorem dX3_goOnWithTask_18 : decode cX3_goOnWithTask 18 = .ok (.aload_n 2, 1) := by decide +kernel
theorem dX3_goOnWithTask_19 : decode cX3_goOnWithTask 19 = .ok (.getfield 81, 3) := by decide +kernel
theorem dX3_goOnWithTask_22 : decode cX3_goOnWithTask 22 = .ok (.ifCond .eq 9, 3) := by decide +kernel
theorem dX3_goOnWithTask_25 : decode cX3_goOnWithTask 25 = .ok (.aload_n 0, 1) := by decide +kernel
theorem dX3_goOnWithTask_26 : decode cX3_goOnWithTask 26 = .ok (.aload_n 2, 1) := by decide +kernel
theorem dX3_goOnWithTask_27 : decode cX3_goOnWithTask 27 = .ok (.invokevirtual 158, 3) := by decide +kernel
theorem dX3_goOnWithTask_30 : decode cX3_goOnWithTask 30 = .ok (.return_, 1) := by decide +kernel
theorem dX3_goOnWithTask_31 : decode cX3_goOnWithTask 31 = .ok (.aload_n 2, 1) := by decide +kernel
theorem dX3_goOnWithTask_32 : decode cX3_goOnWithTask 32 = .ok (.getfield 162, 3) := by decide +kernel
theorem dX3_goOnWithTask_35 : decode cX3_goOnWithTask 35 = .ok (.astore_n 3, 1) := by decide +kernel
theorem dX3_goOnWithTask_36 : decode cX3_goOnWithTask 36 = .ok (.aload_n 3, 1) := by decide +kernel
theorem dX3_goOnWithTask_37 : decode cX3_goOnWithTask 37 = .ok (.ifnonnull 24, 3) := by decide +kernel
theorem dX3_goOnWithTask_40 : decode cX3_goOnWithTask 40 = .ok (.aload_n 2, 1) := by decide +kernel
theorem dX3_goOnWithTask_41 : decode cX3_goOnWithTask 41 = .ok (.aload_n 0, 1) := by decide +kernel
theorem dX3_goOnWithTask_42 : decode cX3_goOnWithTask 42 = .ok (.getfield 12, 3) := by decide +kernel
theorem dX3_goOnWithTask_45 : decode cX3_goOnWithTask 45 = .ok (.iload_n 1, 1) := by decide +kernel
theorem dX3_goOnWithTask_46 : decode cX3_goOnWithTask 46 = .ok (.invokevirtual 46, 3) := by decide +kernel
theorem dX3_goOnWithTask_49 : decode cX3_goOnWithTask 49 = .ok (.ifCond .ne 7, 3) := by decide +kernel
theorem dX3_goOnWithTask_52 : decode cX3_goOnWithTask 52 = .ok (.iconst 1, 1) := by decide +kernel
theorem dX3_goOnWithTask_53 : decode cX3_goOnWithTask 53 = .ok (.goto 4, 3) := by decide +kernel
theorem dX3_goOnWithTask_56 : decode cX3_goOnWithTask 56 = .ok (.iconst 2, 1) := by decide +kernel
theorem dX3_goOnWithTask_57 : decode cX3_goOnWithTask 57 = .ok (.putfield 81, 3) := by decide +kernel
theorem dX3_goOnWithTask_60 : decode cX3_goOnWithTask 60 = .ok (.return_, 1) := by decide +kernel
theorem dX3_goOnWithTask_61 : decode cX3_goOnWithTask 61 = .ok (.aload_n 0, 1) := by decide +kernel
theorem dX3_goOnWithTask_62 : decode cX3_goOnWithTask 62 = .ok (.aload_n 3, 1) := by decide +kernel
theorem dX3_goOnWithTask_63 : decode cX3_goOnWithTask 63 = .ok (.aload_n 2, 1) := by decide +kernel
theorem dX3_goOnWithTask_64 : decode cX3_goOnWithTask 64 = .ok (.getfield 74, 3) := by decide +kernel
theorem dX3_goOnWithTask_67 : decode cX3_goOnWithTask 67 = .ok (.invokevirtual 147, 3) := by decide +kernel
theorem dX3_goOnWithTask_70 : decode cX3_goOnWithTask 70 = .ok (.istore 4, 2) := by decide +kernel
theorem dX3_goOnWithTask_72 : decode cX3_goOnWithTask 72 = .ok (.iload 4, 2) := by decide +kernel
theorem dX3_goOnWithTask_74 : decode cX3_goOnWithTask 74 = .ok (.ifCond .eq 15, 3) := by decide +kernel
theorem dX3_goOnWithTask_77 : decode cX3_goOnWithTask 77 = .ok (.aload_n 2, 1) := by decide +kernel
theorem dX3_goOnWithTask_78 : decode cX3_goOnWithTask 78 = .ok (.iload 4, 2) := by decide +kernel
theorem dX3_goOnWithTask_80 : decode cX3_goOnWithTask 80 = .ok (.putfield 163, 3) := by decide +kernel
theorem dX3_goOnWithTask_83 : decode cX3_goOnWithTask 83 = .ok (.aload_n 2, 1) := by decide +kernel
theorem dX3_goOnWithTask_84 : decode cX3_goOnWithTask 84 = .ok (.iconst 2, 1) := by decide +kernel
theorem dX3_goOnWithTask_85 : decode cX3_goOnWithTask 85 = .ok (.putfield 81, 3) := by decide +kernel
theorem dX3_goOnWithTask_88 : decode cX3_goOnWithTask 88 = .ok (.return_, 1) := by decide +kernel
theorem dX3_goOnWithTask_89 : decode cX3_goOnWithTask 89 = .ok (.aload_n 2, 1) := by decide +kernel
theorem dX3_goOnWithTask_90 : decode cX3_goOnWithTask 90 = .ok (.aload_n 3, 1) := by decide +kernel
theorem dX3_goOnWithTask_91 : decode cX3_goOnWithTask 91 = .ok (.getfield 139, 3) := by decide +kernel
theorem dX3_goOnWithTask_94 : decode cX3_goOnWithTask 94 = .ok (.putfield 162, 3) := by decide +kernel
theorem dX3_goOnWithTask_97 : decode cX3_goOnWithTask 97 = .ok (.aload_n 2, 1) := by decide +kernel
theorem dX3_goOnWithTask_98 : decode cX3_goOnWithTask 98 = .ok (.dup, 1) := by decide +kernel
theorem dX3_goOnWithTask_99 : decode cX3_goOnWithTask 99 = .ok (.getfield 166, 3) := by decide +kernel
theorem dX3_goOnWithTask_102 : decode cX3_goOnWithTask 102 = .ok (.iconst 1, 1) := by decide +kernel
theorem dX3_goOnWithTask_103 : decode cX3_goOnWithTask 103 = .ok (.iadd, 1) := by decide +kernel
theorem dX3_goOnWithTask_104 : decode cX3_goOnWithTask 104 = .ok (.putfield 166, 3) := by decide +kernel
theorem dX3_goOnWithTask_107 : decode cX3_goOnWithTask 107 = .ok (.aload_n 3, 1) := by decide +kernel
theorem dX3_goOnWithTask_108 : decode cX3_goOnWithTask 108 = .ok (.getfield 169, 3) := by decide +kernel
theorem dX3_goOnWithTask_111 : decode cX3_goOnWithTask 111 = .ok (.bipush 46, 2) := by decide +kernel
theorem dX3_goOnWithTask_113 : decode cX3_goOnWithTask 113 = .ok (.if_icmp .ne 14, 3) := by decide +kernel
theorem dX3_goOnWithTask_116 : decode cX3_goOnWithTask 116 = .ok (.aload_n 3, 1) := by decide +kernel
theorem dX3_goOnWithTask_117 : decode cX3_goOnWithTask 117 = .ok (.getfield 139, 3) := by decide +kernel
theorem dX3_goOnWithTask_120 : decode cX3_goOnWithTask 120 = .ok (.ifnull 7, 3) := by decide +kernel
theorem dX3_goOnWithTask_123 : decode cX3_goOnWithTask 123 = .ok (.aload_n 0, 1) := by decide +kernel
theorem dX3_goOnWithTask_124 : decode cX3_goOnWithTask 124 = .ok (.invokevirtual 124, 3) := by decide +kernel
theorem dX3_goOnWithTask_127 : decode cX3_goOnWithTask 127 = .ok (.return_, 1) := by decide +kernel
theorem dX3_goOnShuttingScopesOf_0 : decode cX3_goOnShuttingScopesOf 0 = .ok (.aload_n 0, 1) := by decide +kernel
theorem dX3_goOnShuttingScopesOf_1 : decode cX3_goOnShuttingScopesOf 1 = .ok (.getfield 12, 3) := by decide +kernel
theorem dX3_goOnShuttingScopesOf_4 : decode cX3_goOnShuttingScopesOf 4 = .ok (.aload_n 1, 1) := by decide +kernel
theorem dX3_goOnShuttingScopesOf_5 : decode cX3_goOnShuttingScopesOf 5 = .ok (.getfield 74, 3) := by decide +kernel
theorem dX3_goOnShuttingScopesOf_8 : decode cX3_goOnShuttingScopesOf 8 = .ok (.invokevirtual 103, 3) := by decide +kernel
theorem dX3_goOnShuttingScopesOf_11 : decode cX3_goOnShuttingScopesOf 11 = .ok (.astore_n 2, 1) := by decide +kernel
theorem dX3_goOnShuttingScopesOf_12 : decode cX3_goOnShuttingScopesOf 12 = .ok (.aload_n 2, 1) := by decide +kernel
theorem dX3_goOnShuttingScopesOf_13 : decode cX3_goOnShuttingScopesOf 13 = .ok (.ifnull 24, 3) := by decide +kernel
theorem dX3_goOnShuttingScopesOf_16 : decode cX3_goOnShuttingScopesOf 16 = .ok (.aload_n 2, 1) := by decide +kernel
theorem dX3_goOnShuttingScopesOf_17 : decode cX3_goOnShuttingScopesOf 17 = .ok (.getfield 107, 3) := by decide +kernel
theorem dX3_goOnShuttingScopesOf_20 : decode cX3_goOnShuttingScopesOf 20 = .ok (.ifCond .ne 17, 3) := by decide +kernel
theorem dX3_goOnShuttingScopesOf_23 : decode cX3_goOnShuttingScopesOf 23 = .ok (.aload_n 0, 1) := by decide +kernel
theorem dX3_goOnShuttingScopesOf_24 : decode cX3_goOnShuttingScopesOf 24 = .ok (.bipush 100, 2) := by decide +kernel
theorem dX3_goOnShuttingScopesOf_26 : decode cX3_goOnShuttingScopesOf 26 = .ok (.aload_n 1, 1) := by decide +kernel
theorem dX3_goOnShuttingScopesOf_27 : decode cX3_goOnShuttingScopesOf 27 = .ok (.getfield 74, 3) := by decide +kernel
theorem dX3_goOnShuttingScopesOf_30 : decode cX3_goOnShuttingScopesOf 30 = .ok (.iadd, 1) := by decide +kernel
theorem dX3_goOnShuttingScopesOf_31 : decode cX3_goOnShuttingScopesOf 31 = .ok (.invokevirtual 40, 3) := by decide +kernel
theorem dX3_goOnShuttingScopesOf_34 : decode cX3_goOnShuttingScopesOf 34 = .ok (.goto 33, 3) := by decide +kernel
theorem dX3_goOnShuttingScopesOf_37 : decode cX3_goOnShuttingScopesOf 37 = .ok (.aload_n 2, 1) := by decide +kernel
theorem dX3_goOnShuttingScopesOf_38 : decode cX3_goOnShuttingScopesOf 38 = .ok (.ifnull 14, 3) := by decide +kernel
theorem dX3_goOnShuttingScopesOf_41 : decode cX3_goOnShuttingScopesOf 41 = .ok (.aload_n 1, 1) := by decide +kernel
theorem dX3_goOnShuttingScopesOf_42 : decode cX3_goOnShuttingScopesOf 42 = .ok (.getfield 74, 3) := by decide +kernel
theorem dX3_goOnShuttingScopesOf_45 : decode cX3_goOnShuttingScopesOf 45 = .ok (.aload_n 1, 1) := by decide +kernel
theorem dX3_goOnShuttingScopesOf_46 : decode cX3_goOnShuttingScopesOf 46 = .ok (.getfield 172, 3) := by decide +kernel
theorem dX3_goOnShuttingScopesOf_49 : decode cX3_goOnShuttingScopesOf 49 = .ok (.if_icmp .ne 10, 3) := by decide +kernel
theorem dX3_goOnShuttingScopesOf_52 : decode cX3_goOnShuttingScopesOf 52 = .ok (.aload_n 0, 1) := by decide +kernel
theorem dX3_goOnShuttingScopesOf_53 : decode cX3_goOnShuttingScopesOf 53 = .ok (.invokevirtual 124, 3) := by decide +kernel
theorem dX3_goOnShuttingScopesOf_56 : decode cX3_goOnShuttingScopesOf 56 = .ok (.goto 11, 3) := by decide +kernel
theorem dX3_goOnShuttingScopesOf_59 : decode cX3_goOnShuttingScopesOf 59 = .ok (.aload_n 1, 1) := by decide +kernel
theorem dX3_goOnShuttingScopesOf_60 : decode cX3_goOnShuttingScopesOf 60 = .ok (.aload_n 2, 1) := by decide +kernel
theorem dX3_goOnShuttingScopesOf_61 : decode cX3_goOnShuttingScopesOf 61 = .ok (.getfield 175, 3) := by decide +kernel
theorem dX3_goOnShuttingScopesOf_64 : decode cX3_goOnShuttingScopesOf 64 = .ok (.putfield 74, 3) := by decide +kernel
theorem dX3_goOnShuttingScopesOf_67 : decode cX3_goOnShuttingScopesOf 67 = .ok (.return_, 1) := by decide +kernel
theorem dX3_perform_0 : decode cX3_perform 0 = .ok (.aload_n 1, 1) := by decide +kernel
theorem dX3_perform_1 : decode cX3_perform 1 = .ok (.astore_n 3, 1) := by decide +kernel
theorem dX3_perform_2 : decode cX3_perform 2 = .ok (.aload_n 3, 1) := by decide +kernel
theorem dX3_perform_3 : decode cX3_perform 3 = .ok (.getfield 169, 3) := by decide +kernel
theorem dX3_perform_6 : decode cX3_perform 6 = .ok (.bipush 63, 2) := by decide +kernel
theorem dX3_perform_8 : decode cX3_perform 8 = .ok (.if_icmp .ne 33, 3) := by decide +kernel
theorem dX3_perform_11 : decode cX3_perform 11 = .ok (.aload_n 0, 1) := by decide +kernel
theorem dX3_perform_12 : decode cX3_perform 12 = .ok (.getfield 12, 3) := by decide +kernel
theorem dX3_perform_15 : decode cX3_perform 15 = .ok (.getfield 178, 3) := by decide +kernel
theorem dX3_perform_18 : decode cX3_perform 18 = .ok (.aload_n 3, 1) := by decide +kernel
theorem dX3_perform_19 : decode cX3_perform 19 = .ok (.getfield 181, 3) := by decide +kernel
theorem dX3_perform_22 : decode cX3_perform 22 = .ok (.invokevirtual 91, 3) := by decide +kernel
theorem dX3_perform_25 : decode cX3_perform 25 = .ok (.aload_n 3, 1) := by decide +kernel
theorem dX3_perform_26 : decode cX3_perform 26 = .ok (.getfield 184, 3) := by decide +kernel
theorem dX3_perform_29 : decode cX3_perform 29 = .ok (.if_icmp .ge 10, 3) := by decide +kernel
theorem dX3_perform_32 : decode cX3_perform 32 = .ok (.aload_n 3, 1) := by decide +kernel
theorem dX3_perform_33 : decode cX3_perform 33 = .ok (.getfield 187, 3) := by decide +kernel
theorem dX3_perform_36 : decode cX3_perform 36 = .ok (.goto 4, 3) := by decide +kernel
theorem dX3_perform_39 : decode cX3_perform 39 = .ok (.aconst_null, 1) := by decide +kernel
theorem dX3_perform_40 : decode cX3_perform 40 = .ok (.astore_n 3, 1) := by decide +kernel
theorem dX3_perform_41 : decode cX3_perform 41 = .ok (.aload_n 3, 1) := by decide +kernel
theorem dX3_perform_42 : decode cX3_perform 42 = .ok (.ifnonnull 5, 3) := by decide +kernel
theorem dX3_perform_45 : decode cX3_perform 45 = .ok (.iconst 0, 1) := by decide +kernel
theorem dX3_perform_46 : decode cX3_perform 46 = .ok (.ireturn, 1) := by decide +kernel
theorem dX3_perform_47 : decode cX3_perform 47 = .ok (.aload_n 3, 1) := by decide +kernel
theorem dX3_perform_48 : decode cX3_perform 48 = .ok (.getfield 169, 3) := by decide +kernel
theorem dX3_perform_51 : decode cX3_perform 51 = .ok (.lookupswitch 161 #[(33, 108), (40, 151), (41, 156), (43, 73), (97, 113), (107, 142), (109, 129), (120, 120)], 73) := by decide +kernel
theorem dX3_perform_124 : decode cX3_perform 124 = .ok (.aload_n 0, 1) := by decide +kernel
theorem dX3_perform_125 : decode cX3_perform 125 = .ok (.getfield 12, 3) := by decide +kernel
theorem dX3_perform_128 : decode cX3_perform 128 = .ok (.getfield 178, 3) := by decide +kernel
theorem dX3_perform_131 : decode cX3_perform 131 = .ok (.aload_n 3, 1) := by decide +kernel
theorem dX3_perform_132 : decode cX3_perform 132 = .ok (.getfield 181, 3) := by decide +kernel
theorem dX3_perform_135 : decode cX3_perform 135 = .ok (.aload_n 0, 1) := by decide +kernel
theorem dX3_perform_136 : decode cX3_perform 136 = .ok (.getfield 12, 3) := by decide +kernel
theorem dX3_perform_139 : decode cX3_perform 139 = .ok (.getfield 178, 3) := by decide +kernel
theorem dX3_perform_142 : decode cX3_perform 142 = .ok (.aload_n 3, 1) := by decide +kernel
theorem dX3_perform_143 : decode cX3_perform 143 = .ok (.getfield 181, 3) := by decide +kernel
theorem dX3_perform_146 : decode cX3_perform 146 = .ok (.invokevirtual 91, 3) := by decide +kernel
theorem dX3_perform_149 : decode cX3_perform 149 = .ok (.aload_n 3, 1) := by decide +kernel
theorem dX3_perform_150 : decode cX3_perform 150 = .ok (.getfield 184, 3) := by decide +kernel
theorem dX3_perform_153 : decode cX3_perform 153 = .ok (.iadd, 1) := by decide +kernel
theorem dX3_perform_154 : decode cX3_perform 154 = .ok (.invokevirtual 189, 3) := by decide +kernel
theorem dX3_perform_157 : decode cX3_perform 157 = .ok (.iconst 0, 1) := by decide +kernel
theorem dX3_perform_158 : decode cX3_perform 158 = .ok (.ireturn, 1) := by decide +kernel
theorem dX3_perform_159 : decode cX3_perform 159 = .ok (.aload_n 3, 1) := by decide +kernel
theorem dX3_perform_160 : decode cX3_perform 160 = .ok (.getfield 181, 3) := by decide +kernel
theorem dX3_perform_163 : decode cX3_perform 163 = .ok (.ireturn, 1) := by decide +kernel
theorem dX3_perform_164 : decode cX3_perform 164 = .ok (.aload_n 0, 1) := by decide +kernel
theorem dX3_perform_165 : decode cX3_perform 165 = .ok (.iload_n 2, 1) := by decide +kernel
theorem dX3_perform_166 : decode cX3_perform 166 = .ok (.aload_n 3, 1) := by decide +kernel
theorem dX3_perform_167 : decode cX3_perform 167 = .ok (.invokevirtual 193, 3) := by decide +kernel
theorem dX3_perform_170 : decode cX3_perform 170 = .ok (.ireturn, 1) := by decide +kernel
theorem dX3_perform_171 : decode cX3_perform 171 = .ok (.aload_n 0, 1) := by decide +kernel
theorem dX3_perform_172 : decode cX3_perform 172 = .ok (.aload_n 3, 1) := by decide +kernel
theorem dX3_perform_173 : decode cX3_perform 173 = .ok (.getfield 197, 3) := by decide +kernel
theorem dX3_perform_176 : decode cX3_perform 176 = .ok (.invokevirtual 201, 3) := by decide +kernel
theorem dX3_perform_179 : decode cX3_perform 179 = .ok (.ireturn, 1) := by decide +kernel
theorem dX3_perform_180 : decode cX3_perform 180 = .ok (.aload_n 0, 1) := by decide +kernel
theorem dX3_perform_181 : decode cX3_perform 181 = .ok (.aload_n 3, 1) := by decide +kernel
theorem dX3_perform_182 : decode cX3_perform 182 = .ok (.getfield 197, 3) := by decide +kernel
theorem dX3_perform_185 : decode cX3_perform 185 = .ok (.aload_n 3, 1) := by decide +kernel
theorem dX3_perform_186 : decode cX3_perform 186 = .ok (.getfield 181, 3) := by decide +kernel
theorem dX3_perform_189 : decode cX3_perform 189 = .ok (.invokevirtual 205, 3) := by decide +kernel
theorem dX3_perform_192 : decode cX3_perform 192 = .ok (.ireturn, 1) := by decide +kernel
theorem dX3_perform_193 : decode cX3_perform 193 = .ok (.aload_n 0, 1) := by decide +kernel
theorem dX3_perform_194 : decode cX3_perform 194 = .ok (.aload_n 3, 1) := by decide +kernel
theorem dX3_perform_195 : decode cX3_perform 195 = .ok (.getfield 181, 3) := by decide +kernel
theorem dX3_perform_198 : decode cX3_perform 198 = .ok (.invokevirtual 209, 3) := by decide +kernel
theorem dX3_perform_201 : decode cX3_perform 201 = .ok (.ireturn, 1) := by decide +kernel
theorem dX3_perform_202 : decode cX3_perform 202 = .ok (.aload_n 0, 1) := by decide +kernel
theorem dX3_perform_203 : decode cX3_perform 203 = .ok (.invokevirtual 212, 3) := by decide +kernel
theorem dX3_perform_206 : decode cX3_perform 206 = .ok (.ireturn, 1) := by decide +kernel
theorem dX3_perform_207 : decode cX3_perform 207 = .ok (.aload_n 0, 1) := by decide +kernel
theorem dX3_perform_208 : decode cX3_perform 208 = .ok (.invokevirtual 215, 3) := by decide +kernel
theorem dX3_perform_211 : decode cX3_perform 211 = .ok (.ireturn, 1) := by decide +kernel
theorem dX3_perform_212 : decode cX3_perform 212 = .ok (.iconst 0, 1) := by decide +kernel
theorem dX3_perform_213 : decode cX3_perform 213 = .ok (.ireturn, 1) := by decide +kernel
theorem dX3_takeInto_0 : decode cX3_takeInto 0 = .ok (.aload_n 0, 1) := by decide +kernel
theorem dX3_takeInto_1 : decode cX3_takeInto 1 = .ok (.getfield 12, 3) := by decide +kernel
theorem dX3_takeInto_4 : decode cX3_takeInto 4 = .ok (.iload_n 1, 1) := by decide +kernel
theorem dX3_takeInto_5 : decode cX3_takeInto 5 = .ok (.invokevirtual 77, 3) := by decide +kernel
theorem dX3_takeInto_8 : decode cX3_takeInto 8 = .ok (.ifCond .ne 6, 3) := by decide +kernel
theorem dX3_takeInto_11 : decode cX3_takeInto 11 = .ok (.bipush 101, 2) := by decide +kernel
theorem dX3_takeInto_13 : decode cX3_takeInto 13 = .ok (.ireturn, 1) := by decide +kernel
theorem dX3_takeInto_14 : decode cX3_takeInto 14 = .ok (.aload_n 0, 1) := by decide +kernel
theorem dX3_takeInto_15 : decode cX3_takeInto 15 = .ok (.getfield 12, 3) := by decide +kernel
theorem dX3_takeInto_18 : decode cX3_takeInto 18 = .ok (.aload_n 2, 1) := by decide +kernel
theorem dX3_takeInto_19 : decode cX3_takeInto 19 = .ok (.getfield 197, 3) := by decide +kernel
theorem dX3_takeInto_22 : decode cX3_takeInto 22 = .ok (.invokevirtual 218, 3) := by decide +kernel
theorem dX3_takeInto_25 : decode cX3_takeInto 25 = .ok (.ifCond .lt 6, 3) := by decide +kernel
theorem dX3_takeInto_28 : decode cX3_takeInto 28 = .ok (.bipush 102, 2) := by decide +kernel
theorem dX3_takeInto_30 : decode cX3_takeInto 30 = .ok (.ireturn, 1) := by decide +kernel
theorem dX3_takeInto_31 : decode cX3_takeInto 31 = .ok (.aload_n 0, 1) := by decide +kernel
theorem dX3_takeInto_32 : decode cX3_takeInto 32 = .ok (.getfield 12, 3) := by decide +kernel
theorem dX3_takeInto_35 : decode cX3_takeInto 35 = .ok (.invokevirtual 221, 3) := by decide +kernel
theorem dX3_takeInto_38 : decode cX3_takeInto 38 = .ok (.ifCond .eq 6, 3) := by decide +kernel
theorem dX3_takeInto_41 : decode cX3_takeInto 41 = .ok (.bipush 103, 2) := by decide +kernel
theorem dX3_takeInto_43 : decode cX3_takeInto 43 = .ok (.ireturn, 1) := by decide +kernel
theorem dX3_takeInto_44 : decode cX3_takeInto 44 = .ok (.aload_n 0, 1) := by decide +kernel
theorem dX3_takeInto_45 : decode cX3_takeInto 45 = .ok (.getfield 12, 3) := by decide +kernel
theorem dX3_takeInto_48 : decode cX3_takeInto 48 = .ok (.aload_n 2, 1) := by decide +kernel
theorem dX3_takeInto_49 : decode cX3_takeInto 49 = .ok (.iload_n 1, 1) := by decide +kernel
theorem dX3_takeInto_50 : decode cX3_takeInto 50 = .ok (.invokevirtual 225, 3) := by decide +kernel
theorem dX3_takeInto_53 : decode cX3_takeInto 53 = .ok (.pop, 1) := by decide +kernel
theorem dX3_takeInto_54 : decode cX3_takeInto 54 = .ok (.iconst 0, 1) := by decide +kernel
theorem dX3_takeInto_55 : decode cX3_takeInto 55 = .ok (.ireturn, 1) := by decide +kernel
theorem dX3_closeNamed_0 : decode cX3_closeNamed 0 = .ok (.aload_n 0, 1) := by decide +kernel
theorem dX3_closeNamed_1 : decode cX3_closeNamed 1 = .ok (.getfield 12, 3) := by decide +kernel
theorem dX3_closeNamed_4 : decode cX3_closeNamed 4 = .ok (.lload_n 1, 1) := by decide +kernel
theorem dX3_closeNamed_5 : decode cX3_closeNamed 5 = .ok (.invokevirtual 218, 3) := by decide +kernel
theorem dX3_closeNamed_8 : decode cX3_closeNamed 8 = .ok (.istore_n 3, 1) := by decide +kernel
theorem dX3_closeNamed_9 : decode cX3_closeNamed 9 = .ok (.iload_n 3, 1) := by decide +kernel
theorem dX3_closeNamed_10 : decode cX3_closeNamed 10 = .ok (.ifCond .ge 6, 3) := by decide +kernel
theorem dX3_closeNamed_13 : decode cX3_closeNamed 13 = .ok (.bipush 104, 2) := by decide +kernel
theorem dX3_closeNamed_15 : decode cX3_closeNamed 15 = .ok (.ireturn, 1) := by decide +kernel
theorem dX3_closeNamed_16 : decode cX3_closeNamed 16 = .ok (.aload_n 0, 1) := by decide +kernel
theorem dX3_closeNamed_17 : decode cX3_closeNamed 17 = .ok (.iload_n 3, 1) := by decide +kernel
theorem dX3_closeNamed_18 : decode cX3_closeNamed 18 = .ok (.invokevirtual 40, 3) := by decide +kernel
theorem dX3_closeNamed_21 : decode cX3_closeNamed 21 = .ok (.iconst 0, 1) := by decide +kernel
theorem dX3_closeNamed_22 : decode cX3_closeNamed 22 = .ok (.ireturn, 1) := by decide +kernel
theorem dX3_moveNamed_0 : decode cX3_moveNamed 0 = .ok (.aload_n 0, 1) := by decide +kernel
theorem dX3_moveNamed_1 : decode cX3_moveNamed 1 = .ok (.getfield 12, 3) := by decide +kernel
theorem dX3_moveNamed_4 : decode cX3_moveNamed 4 = .ok (.lload_n 1, 1) := by decide +kernel
theorem dX3_moveNamed_5 : decode cX3_moveNamed 5 = .ok (.invokevirtual 218, 3) := by decide +kernel
theorem dX3_moveNamed_8 : decode cX3_moveNamed 8 = .ok (.istore 4, 2) := by decide +kernel
theorem dX3_moveNamed_10 : decode cX3_moveNamed 10 = .ok (.iload 4, 2) := by decide +kernel
theorem dX3_moveNamed_12 : decode cX3_moveNamed 12 = .ok (.ifCond .ge 6, 3) := by decide +kernel
theorem dX3_moveNamed_15 : decode cX3_moveNamed 15 = .ok (.bipush 104, 2) := by decide +kernel
theorem dX3_moveNamed_17 : decode cX3_moveNamed 17 = .ok (.ireturn, 1) := by decide +kernel
theorem dX3_moveNamed_18 : decode cX3_moveNamed 18 = .ok (.aload_n 0, 1) := by decide +kernel
theorem dX3_moveNamed_19 : decode cX3_moveNamed 19 = .ok (.getfield 12, 3) := by decide +kernel
theorem dX3_moveNamed_22 : decode cX3_moveNamed 22 = .ok (.iload_n 3, 1) := by decide +kernel
theorem dX3_moveNamed_23 : decode cX3_moveNamed 23 = .ok (.invokevirtual 77, 3) := by decide +kernel
theorem dX3_moveNamed_26 : decode cX3_moveNamed 26 = .ok (.ifCond .ne 6, 3) := by decide +kernel
theorem dX3_moveNamed_29 : decode cX3_moveNamed 29 = .ok (.bipush 105, 2) := by decide +kernel
theorem dX3_moveNamed_31 : decode cX3_moveNamed 31 = .ok (.ireturn, 1) := by decide +kernel
theorem dX3_moveNamed_32 : decode cX3_moveNamed 32 = .ok (.aload_n 0, 1) := by decide +kernel
theorem dX3_moveNamed_33 : decode cX3_moveNamed 33 = .ok (.getfield 12, 3) := by decide +kernel
theorem dX3_moveNamed_36 : decode cX3_moveNamed 36 = .ok (.iload 4, 2) := by decide +kernel
theorem dX3_moveNamed_38 : decode cX3_moveNamed 38 = .ok (.iload_n 3, 1) := by decide +kernel
theorem dX3_moveNamed_39 : decode cX3_moveNamed 39 = .ok (.invokevirtual 228, 3) := by decide +kernel
theorem dX3_moveNamed_42 : decode cX3_moveNamed 42 = .ok (.iconst 0, 1) := by decide +kernel
theorem dX3_moveNamed_43 : decode cX3_moveNamed 43 = .ok (.ireturn, 1) := by decide +kernel
theorem dX3_openInner_0 : decode cX3_openInner 0 = .ok (.aload_n 0, 1) := by decide +kernel
theorem dX3_openInner_1 : decode cX3_openInner 1 = .ok (.getfield 12, 3) := by decide +kernel
theorem dX3_openInner_4 : decode cX3_openInner 4 = .ok (.aload_n 0, 1) := by decide +kernel
theorem dX3_openInner_5 : decode cX3_openInner 5 = .ok (.getfield 27, 3) := by decide +kernel
theorem dX3_openInner_8 : decode cX3_openInner 8 = .ok (.invokevirtual 57, 3) := by decide +kernel
theorem dX3_openInner_11 : decode cX3_openInner 11 = .ok (.astore_n 1, 1) := by decide +kernel
theorem dX3_openInner_12 : decode cX3_openInner 12 = .ok (.aload_n 1, 1) := by decide +kernel
theorem dX3_openInner_13 : decode cX3_openInner 13 = .ok (.ifnonnull 5, 3) := by decide +kernel
theorem dX3_openInner_18 : decode cX3_openInner 18 = .ok (.aload_n 0, 1) := by decide +kernel
theorem dX3_openInner_19 : decode cX3_openInner 19 = .ok (.getfield 12, 3) := by decide +kernel
theorem dX3_openInner_22 : decode cX3_openInner 22 = .ok (.invokevirtual 231, 3) := by decide +kernel
theorem dX3_openInner_25 : decode cX3_openInner 25 = .ok (.ifCond .eq 6, 3) := by decide +kernel
theorem dX3_openInner_28 : decode cX3_openInner 28 = .ok (.bipush 107, 2) := by decide +kernel
theorem dX3_openInner_30 : decode cX3_openInner 30 = .ok (.ireturn, 1) := by decide +kernel
theorem dX3_openInner_31 : decode cX3_openInner 31 = .ok (.aload_n 0, 1) := by decide +kernel
theorem dX3_openInner_32 : decode cX3_openInner 32 = .ok (.getfield 12, 3) := by decide +kernel
theorem dX3_openInner_35 : decode cX3_openInner 35 = .ok (.aload_n 1, 1) := by decide +kernel
theorem dX3_openInner_36 : decode cX3_openInner 36 = .ok (.getfield 74, 3) := by decide +kernel
theorem dX3_openInner_39 : decode cX3_openInner 39 = .ok (.invokevirtual 77, 3) := by decide +kernel
theorem dX3_openInner_42 : decode cX3_openInner 42 = .ok (.ifCond .ne 6, 3) := by decide +kernel
theorem dX3_openInner_45 : decode cX3_openInner 45 = .ok (.bipush 101, 2) := by decide +kernel
theorem dX3_openInner_47 : decode cX3_openInner 47 = .ok (.ireturn, 1) := by decide +kernel
theorem dX3_openInner_48 : decode cX3_openInner 48 = .ok (.aload_n 1, 1) := by decide +kernel
theorem dX3_openInner_49 : decode cX3_openInner 49 = .ok (.aload_n 0, 1) := by decide +kernel
theorem dX3_openInner_50 : decode cX3_openInner 50 = .ok (.getfield 12, 3) := by decide +kernel
theorem dX3_openInner_53 : decode cX3_openInner 53 = .ok (.aload_n 1, 1) := by decide +kernel
theorem dX3_openInner_54 : decode cX3_openInner 54 = .ok (.getfield 74, 3) := by decide +kernel
theorem dX3_openInner_57 : decode cX3_openInner 57 = .ok (.aload_n 0, 1) := by decide +kernel
theorem dX3_openInner_58 : decode cX3_openInner 58 = .ok (.getfield 27, 3) := by decide +kernel
theorem dX3_openInner_61 : decode cX3_openInner 61 = .ok (.invokevirtual 234, 3) := by decide +kernel
theorem dX3_openInner_64 : decode cX3_openInner 64 = .ok (.putfield 74, 3) := by decide +kernel
theorem dX3_openInner_67 : decode cX3_openInner 67 = .ok (.iconst 0, 1) := by decide +kernel
theorem dX3_openInner_68 : decode cX3_openInner 68 = .ok (.ireturn, 1) := by decide +kernel
theorem dX3_shutInner_0 : decode cX3_shutInner 0 = .ok (.aload_n 0, 1) := by decide +kernel
theorem dX3_shutInner_1 : decode cX3_shutInner 1 = .ok (.getfield 12, 3) := by decide +kernel
theorem dX3_shutInner_4 : decode cX3_shutInner 4 = .ok (.aload_n 0, 1) := by decide +kernel
theorem dX3_shutInner_5 : decode cX3_shutInner 5 = .ok (.getfield 27, 3) := by decide +kernel
theorem dX3_shutInner_8 : decode cX3_shutInner 8 = .ok (.invokevirtual 57, 3) := by decide +kernel
theorem dX3_shutInner_11 : decode cX3_shutInner 11 = .ok (.astore_n 1, 1) := by decide +kernel
theorem dX3_shutInner_12 : decode cX3_shutInner 12 = .ok (.aload_n 1, 1) := by decide +kernel
theorem dX3_shutInner_13 : decode cX3_shutInner 13 = .ok (.ifnonnull 7, 3) := by decide +kernel
theorem dX3_shutInner_20 : decode cX3_shutInner 20 = .ok (.aload_n 0, 1) := by decide +kernel
theorem dX3_shutInner_21 : decode cX3_shutInner 21 = .ok (.getfield 12, 3) := by decide +kernel
theorem dX3_shutInner_24 : decode cX3_shutInner 24 = .ok (.aload_n 1, 1) := by decide +kernel
theorem dX3_shutInner_25 : decode cX3_shutInner 25 = .ok (.getfield 74, 3) := by decide +kernel
theorem dX3_shutInner_28 : decode cX3_shutInner 28 = .ok (.invokevirtual 103, 3) := by decide +kernel
theorem dX3_shutInner_31 : decode cX3_shutInner 31 = .ok (.astore_n 2, 1) := by decide +kernel
theorem dX3_shutInner_32 : decode cX3_shutInner 32 = .ok (.aload_n 1, 1) := by decide +kernel
theorem dX3_shutInner_33 : decode cX3_shutInner 33 = .ok (.ifnull 18, 3) := by decide +kernel
theorem dX3_shutInner_36 : decode cX3_shutInner 36 = .ok (.aload_n 2, 1) := by decide +kernel
theorem dX3_shutInner_37 : decode cX3_shutInner 37 = .ok (.ifnull 14, 3) := by decide +kernel
theorem dX3_shutInner_40 : decode cX3_shutInner 40 = .ok (.aload_n 1, 1) := by decide +kernel
theorem dX3_shutInner_41 : decode cX3_shutInner 41 = .ok (.getfield 74, 3) := by decide +kernel
theorem dX3_shutInner_44 : decode cX3_shutInner 44 = .ok (.aload_n 1, 1) := by decide +kernel
theorem dX3_shutInner_45 : decode cX3_shutInner 45 = .ok (.getfield 172, 3) := by decide +kernel
theorem dX3_shutInner_48 : decode cX3_shutInner 48 = .ok (.if_icmp .ne 5, 3) := by decide +kernel
theorem dX3_shutInner_53 : decode cX3_shutInner 53 = .ok (.aload_n 2, 1) := by decide +kernel
theorem dX3_shutInner_54 : decode cX3_shutInner 54 = .ok (.getfield 107, 3) := by decide +kernel
theorem dX3_shutInner_57 : decode cX3_shutInner 57 = .ok (.ifCond .ne 14, 3) := by decide +kernel
theorem dX3_shutInner_60 : decode cX3_shutInner 60 = .ok (.aload_n 0, 1) := by decide +kernel
theorem dX3_shutInner_61 : decode cX3_shutInner 61 = .ok (.bipush 100, 2) := by decide +kernel
theorem dX3_shutInner_63 : decode cX3_shutInner 63 = .ok (.aload_n 1, 1) := by decide +kernel
theorem dX3_shutInner_64 : decode cX3_shutInner 64 = .ok (.getfield 74, 3) := by decide +kernel
theorem dX3_shutInner_67 : decode cX3_shutInner 67 = .ok (.iadd, 1) := by decide +kernel
theorem dX3_shutInner_68 : decode cX3_shutInner 68 = .ok (.invokevirtual 40, 3) := by decide +kernel
theorem dX3_shutInner_71 : decode cX3_shutInner 71 = .ok (.aload_n 1, 1) := by decide +kernel
theorem dX3_shutInner_72 : decode cX3_shutInner 72 = .ok (.aload_n 2, 1) := by decide +kernel
theorem dX3_shutInner_73 : decode cX3_shutInner 73 = .ok (.getfield 175, 3) := by decide +kernel
theorem dX3_shutInner_76 : decode cX3_shutInner 76 = .ok (.putfield 74, 3) := by decide +kernel
theorem dX3_shutInner_79 : decode cX3_shutInner 79 = .ok (.iconst 0, 1) := by decide +kernel
theorem dX3_shutInner_80 : decode cX3_shutInner 80 = .ok (.ireturn, 1) := by decide +kernel
theorem dX3_askToCancel_0 : decode cX3_askToCancel 0 = .ok (.aload_n 0, 1) := by decide +kernel
theorem dX3_askToCancel_1 : decode cX3_askToCancel 1 = .ok (.getfield 12, 3) := by decide +kernel
theorem dX3_askToCancel_4 : decode cX3_askToCancel 4 = .ok (.iload_n 1, 1) := by decide +kernel
theorem dX3_askToCancel_5 : decode cX3_askToCancel 5 = .ok (.invokevirtual 57, 3) := by decide +kernel
theorem dX3_askToCancel_8 : decode cX3_askToCancel 8 = .ok (.astore_n 2, 1) := by decide +kernel
theorem dX3_askToCancel_9 : decode cX3_askToCancel 9 = .ok (.aload_n 2, 1) := by decide +kernel
theorem dX3_askToCancel_10 : decode cX3_askToCancel 10 = .ok (.ifnull 10, 3) := by decide +kernel
theorem dX3_askToCancel_13 : decode cX3_askToCancel 13 = .ok (.aload_n 2, 1) := by decide +kernel
theorem dX3_askToCancel_14 : decode cX3_askToCancel 14 = .ok (.getfield 81, 3) := by decide +kernel
theorem dX3_askToCancel_17 : decode cX3_askToCancel 17 = .ok (.ifCond .eq 6, 3) := by decide +kernel
theorem dX3_askToCancel_20 : decode cX3_askToCancel 20 = .ok (.bipush 106, 2) := by decide +kernel
theorem dX3_askToCancel_22 : decode cX3_askToCancel 22 = .ok (.ireturn, 1) := by decide +kernel
theorem dX3_askToCancel_23 : decode cX3_askToCancel 23 = .ok (.aload_n 2, 1) := by decide +kernel
theorem dX3_askToCancel_24 : decode cX3_askToCancel 24 = .ok (.iconst 1, 1) := by decide +kernel
theorem dX3_askToCancel_25 : decode cX3_askToCancel 25 = .ok (.putfield 70, 3) := by decide +kernel
theorem dX3_askToCancel_28 : decode cX3_askToCancel 28 = .ok (.iconst 0, 1) := by decide +kernel
theorem dX3_askToCancel_29 : decode cX3_askToCancel 29 = .ok (.ireturn, 1) := by decide +kernel
theorem dX4_init_0 : decode cX4_init 0 = .ok (.aload_n 0, 1) := by decide +kernel
theorem dX4_init_1 : decode cX4_init 1 = .ok (.invokespecial 1, 3) := by decide +kernel
theorem dX4_init_4 : decode cX4_init 4 = .ok (.return_, 1) := by decide +kernel
theorem dX4_become_0 : decode cX4_become 0 = .ok (.aload_n 0, 1) := by decide +kernel
theorem dX4_become_1 : decode cX4_become 1 = .ok (.aload_n 1, 1) := by decide +kernel
theorem dX4_become_2 : decode cX4_become 2 = .ok (.getfield 7, 3) := by decide +kernel
theorem dX4_become_5 : decode cX4_become 5 = .ok (.putfield 7, 3) := by decide +kernel
theorem dX4_become_8 : decode cX4_become 8 = .ok (.aload_n 0, 1) := by decide +kernel
theorem dX4_become_9 : decode cX4_become 9 = .ok (.aload_n 1, 1) := by decide +kernel
theorem dX4_become_10 : decode cX4_become 10 = .ok (.getfield 13, 3) := by decide +kernel
theorem dX4_become_13 : decode cX4_become 13 = .ok (.putfield 13, 3) := by decide +kernel
theorem dX4_become_16 : decode cX4_become 16 = .ok (.aload_n 0, 1) := by decide +kernel
theorem dX4_become_17 : decode cX4_become 17 = .ok (.aload_n 1, 1) := by decide +kernel
theorem dX4_become_18 : decode cX4_become 18 = .ok (.getfield 16, 3) := by decide +kernel
theorem dX4_become_21 : decode cX4_become 21 = .ok (.putfield 16, 3) := by decide +kernel
theorem dX4_become_24 : decode cX4_become 24 = .ok (.return_, 1) := by decide +kernel
theorem dX5_init_0 : decode cX5_init 0 = .ok (.aload_n 0, 1) := by decide +kernel
theorem dX5_init_1 : decode cX5_init 1 = .ok (.invokespecial 3, 3) := by decide +kernel
theorem dX5_init_4 : decode cX5_init 4 = .ok (.aload_n 0, 1) := by decide +kernel
theorem dX5_init_5 : decode cX5_init 5 = .ok (.new 9, 3) := by decide +kernel
theorem dX5_init_8 : decode cX5_init 8 = .ok (.dup, 1) := by decide +kernel
theorem dX5_init_9 : decode cX5_init 9 = .ok (.bipush 120, 2) := by decide +kernel
theorem dX5_init_11 : decode cX5_init 11 = .ok (.invokespecial 11, 3) := by decide +kernel
theorem dX5_init_14 : decode cX5_init 14 = .ok (.putfield 14, 3) := by decide +kernel
theorem dX5_init_17 : decode cX5_init 17 = .ok (.return_, 1) := by decide +kernel
theorem dX5_write_0 : decode cX5_write 0 = .ok (.aload_n 0, 1) := by decide +kernel
theorem dX5_write_1 : decode cX5_write 1 = .ok (.getfield 14, 3) := by decide +kernel
theorem dX5_write_4 : decode cX5_write 4 = .ok (.iconst 0, 1) := by decide +kernel
theorem dX5_write_5 : decode cX5_write 5 = .ok (.putfield 20, 3) := by decide +kernel
theorem dX5_write_8 : decode cX5_write 8 = .ok (.aload_n 0, 1) := by decide +kernel
theorem dX5_write_9 : decode cX5_write 9 = .ok (.aload_n 1, 1) := by decide +kernel
theorem dX5_write_10 : decode cX5_write 10 = .ok (.iconst 0, 1) := by decide +kernel
theorem dX5_write_11 : decode cX5_write 11 = .ok (.invokevirtual 24, 3) := by decide +kernel
theorem dX5_write_14 : decode cX5_write 14 = .ok (.aload_n 0, 1) := by decide +kernel
theorem dX5_write_15 : decode cX5_write 15 = .ok (.getfield 14, 3) := by decide +kernel
theorem dX5_write_18 : decode cX5_write 18 = .ok (.getfield 20, 3) := by decide +kernel
theorem dX5_write_21 : decode cX5_write 21 = .ok (.ireturn, 1) := by decide +kernel
theorem dX5_writeSteps_0 : decode cX5_writeSteps 0 = .ok (.aload_n 1, 1) := by decide +kernel
theorem dX5_writeSteps_1 : decode cX5_writeSteps 1 = .ok (.astore_n 3, 1) := by decide +kernel
theorem dX5_writeSteps_2 : decode cX5_writeSteps 2 = .ok (.aload_n 3, 1) := by decide +kernel
theorem dX5_writeSteps_3 : decode cX5_writeSteps 3 = .ok (.ifnull 34, 3) := by decide +kernel
theorem dX5_writeSteps_6 : decode cX5_writeSteps 6 = .ok (.aload_n 0, 1) := by decide +kernel
theorem dX5_writeSteps_7 : decode cX5_writeSteps 7 = .ok (.aload_n 3, 1) := by decide +kernel
theorem dX5_writeSteps_8 : decode cX5_writeSteps 8 = .ok (.iload_n 2, 1) := by decide +kernel
theorem dX5_writeSteps_9 : decode cX5_writeSteps 9 = .ok (.invokevirtual 28, 3) := by decide +kernel
theorem dX5_writeSteps_12 : decode cX5_writeSteps 12 = .ok (.aload_n 3, 1) := by decide +kernel
theorem dX5_writeSteps_13 : decode cX5_writeSteps 13 = .ok (.getfield 31, 3) := by decide +kernel
theorem dX5_writeSteps_16 : decode cX5_writeSteps 16 = .ok (.ifnull 13, 3) := by decide +kernel
theorem dX5_writeSteps_19 : decode cX5_writeSteps 19 = .ok (.aload_n 0, 1) := by decide +kernel
theorem dX5_writeSteps_20 : decode cX5_writeSteps 20 = .ok (.getfield 14, 3) := by decide +kernel
theorem dX5_writeSteps_23 : decode cX5_writeSteps 23 = .ok (.bipush 59, 2) := by decide +kernel
theorem dX5_writeSteps_25 : decode cX5_writeSteps 25 = .ok (.invokevirtual 37, 3) := by decide +kernel
theorem dX5_writeSteps_28 : decode cX5_writeSteps 28 = .ok (.pop, 1) := by decide +kernel
theorem dX5_writeSteps_29 : decode cX5_writeSteps 29 = .ok (.aload_n 3, 1) := by decide +kernel
theorem dX5_writeSteps_30 : decode cX5_writeSteps 30 = .ok (.getfield 31, 3) := by decide +kernel
theorem dX5_writeSteps_33 : decode cX5_writeSteps 33 = .ok (.astore_n 3, 1) := by decide +kernel
theorem dX5_writeSteps_34 : decode cX5_writeSteps 34 = .ok (.goto (-32), 3) := by decide +kernel
theorem dX5_writeSteps_37 : decode cX5_writeSteps 37 = .ok (.return_, 1) := by decide +kernel
theorem dX5_writeStep_0 : decode cX5_writeStep 0 = .ok (.aload_n 1, 1) := by decide +kernel
theorem dX5_writeStep_1 : decode cX5_writeStep 1 = .ok (.ifnull 9, 3) := by decide +kernel
theorem dX5_writeStep_4 : decode cX5_writeStep 4 = .ok (.iload_n 2, 1) := by decide +kernel
theorem dX5_writeStep_5 : decode cX5_writeStep 5 = .ok (.bipush 8, 2) := by decide +kernel
theorem dX5_writeStep_7 : decode cX5_writeStep 7 = .ok (.if_icmp .le 4, 3) := by decide +kernel
theorem dX5_writeStep_10 : decode cX5_writeStep 10 = .ok (.return_, 1) := by decide +kernel
theorem dX5_writeStep_11 : decode cX5_writeStep 11 = .ok (.aload_n 0, 1) := by decide +kernel
theorem dX5_writeStep_12 : decode cX5_writeStep 12 = .ok (.getfield 14, 3) := by decide +kernel
theorem dX5_writeStep_15 : decode cX5_writeStep 15 = .ok (.aload_n 1, 1) := by decide +kernel
theorem dX5_writeStep_16 : decode cX5_writeStep 16 = .ok (.getfield 41, 3) := by decide +kernel
theorem dX5_writeStep_19 : decode cX5_writeStep 19 = .ok (.invokevirtual 37, 3) := by decide +kernel
theorem dX5_writeStep_22 : decode cX5_writeStep 22 = .ok (.pop, 1) := by decide +kernel
theorem dX5_writeStep_23 : decode cX5_writeStep 23 = .ok (.aload_n 1, 1) := by decide +kernel
theorem dX5_writeStep_24 : decode cX5_writeStep 24 = .ok (.getfield 41, 3) := by decide +kernel
theorem dX5_writeStep_27 : decode cX5_writeStep 27 = .ok (.lookupswitch 177 #[(33, 75), (43, 65), (63, 146), (97, 86), (107, 75), (109, 117), (120, 106)], 65) := by decide +kernel
theorem dX5_writeStep_92 : decode cX5_writeStep 92 = .ok (.aload_n 0, 1) := by decide +kernel
theorem dX5_writeStep_93 : decode cX5_writeStep 93 = .ok (.aload_n 1, 1) := by decide +kernel
theorem dX5_writeStep_94 : decode cX5_writeStep 94 = .ok (.bipush 61, 2) := by decide +kernel
theorem dX5_writeStep_96 : decode cX5_writeStep 96 = .ok (.invokevirtual 44, 3) := by decide +kernel
theorem dX5_writeStep_99 : decode cX5_writeStep 99 = .ok (.goto 105, 3) := by decide +kernel
theorem dX5_writeStep_102 : decode cX5_writeStep 102 = .ok (.aload_n 0, 1) := by decide +kernel
theorem dX5_writeStep_103 : decode cX5_writeStep 103 = .ok (.aload_n 1, 1) := by decide +kernel
theorem dX5_writeStep_104 : decode cX5_writeStep 104 = .ok (.getfield 47, 3) := by decide +kernel
theorem dX5_writeStep_107 : decode cX5_writeStep 107 = .ok (.invokevirtual 50, 3) := by decide +kernel
theorem dX5_writeStep_110 : decode cX5_writeStep 110 = .ok (.goto 94, 3) := by decide +kernel
theorem dX5_writeStep_113 : decode cX5_writeStep 113 = .ok (.aload_n 0, 1) := by decide +kernel
theorem dX5_writeStep_114 : decode cX5_writeStep 114 = .ok (.aload_n 1, 1) := by decide +kernel
theorem dX5_writeStep_115 : decode cX5_writeStep 115 = .ok (.getfield 53, 3) := by decide +kernel
theorem dX5_writeStep_118 : decode cX5_writeStep 118 = .ok (.invokevirtual 57, 3) := by decide +kernel
theorem dX5_writeStep_121 : decode cX5_writeStep 121 = .ok (.aload_n 0, 1) := by decide +kernel
theorem dX5_writeStep_122 : decode cX5_writeStep 122 = .ok (.aload_n 1, 1) := by decide +kernel
theorem dX5_writeStep_123 : decode cX5_writeStep 123 = .ok (.getfield 61, 3) := by decide +kernel
theorem dX5_writeStep_126 : decode cX5_writeStep 126 = .ok (.iload_n 2, 1) := by decide +kernel
theorem dX5_writeStep_127 : decode cX5_writeStep 127 = .ok (.invokevirtual 64, 3) := by decide +kernel
theorem dX5_writeStep_130 : decode cX5_writeStep 130 = .ok (.goto 74, 3) := by decide +kernel
theorem dX5_writeStep_133 : decode cX5_writeStep 133 = .ok (.aload_n 0, 1) := by decide +kernel
theorem dX5_writeStep_134 : decode cX5_writeStep 134 = .ok (.aload_n 1, 1) := by decide +kernel
theorem dX5_writeStep_135 : decode cX5_writeStep 135 = .ok (.getfield 53, 3) := by decide +kernel
theorem dX5_writeStep_138 : decode cX5_writeStep 138 = .ok (.invokevirtual 57, 3) := by decide +kernel
theorem dX5_writeStep_141 : decode cX5_writeStep 141 = .ok (.goto 63, 3) := by decide +kernel
theorem dX5_writeStep_144 : decode cX5_writeStep 144 = .ok (.aload_n 0, 1) := by decide +kernel
theorem dX5_writeStep_145 : decode cX5_writeStep 145 = .ok (.aload_n 1, 1) := by decide +kernel
theorem dX5_writeStep_146 : decode cX5_writeStep 146 = .ok (.getfield 53, 3) := by decide +kernel
theorem dX5_writeStep_149 : decode cX5_writeStep 149 = .ok (.invokevirtual 57, 3) := by decide +kernel
theorem dX5_writeStep_152 : decode cX5_writeStep 152 = .ok (.aload_n 0, 1) := by decide +kernel
theorem dX5_writeStep_153 : decode cX5_writeStep 153 = .ok (.getfield 14, 3) := by decide +kernel
theorem dX5_writeStep_156 : decode cX5_writeStep 156 = .ok (.bipush 62, 2) := by decide +kernel
theorem dX5_writeStep_158 : decode cX5_writeStep 158 = .ok (.invokevirtual 37, 3) := by decide +kernel
theorem dX5_writeStep_161 : decode cX5_writeStep 161 = .ok (.pop, 1) := by decide +kernel
theorem dX5_writeStep_162 : decode cX5_writeStep 162 = .ok (.aload_n 0, 1) := by decide +kernel
theorem dX5_writeStep_163 : decode cX5_writeStep 163 = .ok (.aload_n 1, 1) := by decide +kernel
theorem dX5_writeStep_164 : decode cX5_writeStep 164 = .ok (.getfield 47, 3) := by decide +kernel
theorem dX5_writeStep_167 : decode cX5_writeStep 167 = .ok (.invokevirtual 50, 3) := by decide +kernel
theorem dX5_writeStep_170 : decode cX5_writeStep 170 = .ok (.goto 34, 3) := by decide +kernel
theorem dX5_writeStep_173 : decode cX5_writeStep 173 = .ok (.aload_n 0, 1) := by decide +kernel
theorem dX5_writeStep_174 : decode cX5_writeStep 174 = .ok (.aload_n 1, 1) := by decide +kernel
theorem dX5_writeStep_175 : decode cX5_writeStep 175 = .ok (.bipush 60, 2) := by decide +kernel
theorem dX5_writeStep_177 : decode cX5_writeStep 177 = .ok (.invokevirtual 44, 3) := by decide +kernel
theorem dX5_writeStep_180 : decode cX5_writeStep 180 = .ok (.aload_n 0, 1) := by decide +kernel
theorem dX5_writeStep_181 : decode cX5_writeStep 181 = .ok (.getfield 14, 3) := by decide +kernel
theorem dX5_writeStep_184 : decode cX5_writeStep 184 = .ok (.bipush 58, 2) := by decide +kernel
theorem dX5_writeStep_186 : decode cX5_writeStep 186 = .ok (.invokevirtual 37, 3) := by decide +kernel
theorem dX5_writeStep_189 : decode cX5_writeStep 189 = .ok (.pop, 1) := by decide +kernel
theorem dX5_writeStep_190 : decode cX5_writeStep 190 = .ok (.aload_n 0, 1) := by decide +kernel
theorem dX5_writeStep_191 : decode cX5_writeStep 191 = .ok (.aload_n 1, 1) := by decide +kernel
theorem dX5_writeStep_192 : decode cX5_writeStep 192 = .ok (.getfield 61, 3) := by decide +kernel
theorem dX5_writeStep_195 : decode cX5_writeStep 195 = .ok (.iload_n 2, 1) := by decide +kernel
theorem dX5_writeStep_196 : decode cX5_writeStep 196 = .ok (.iconst 1, 1) := by decide +kernel
theorem dX5_writeStep_197 : decode cX5_writeStep 197 = .ok (.iadd, 1) := by decide +kernel
theorem dX5_writeStep_198 : decode cX5_writeStep 198 = .ok (.invokevirtual 28, 3) := by decide +kernel
theorem dX5_writeStep_201 : decode cX5_writeStep 201 = .ok (.goto 3, 3) := by decide +kernel
theorem dX5_writeStep_204 : decode cX5_writeStep 204 = .ok (.return_, 1) := by decide +kernel
theorem dX5_writeSetting_0 : decode cX5_writeSetting 0 = .ok (.aload_n 0, 1) := by decide +kernel
theorem dX5_writeSetting_1 : decode cX5_writeSetting 1 = .ok (.aload_n 1, 1) := by decide +kernel
theorem dX5_writeSetting_2 : decode cX5_writeSetting 2 = .ok (.getfield 47, 3) := by decide +kernel
theorem dX5_writeSetting_5 : decode cX5_writeSetting 5 = .ok (.invokevirtual 50, 3) := by decide +kernel
theorem dX5_writeSetting_8 : decode cX5_writeSetting 8 = .ok (.aload_n 0, 1) := by decide +kernel
theorem dX5_writeSetting_9 : decode cX5_writeSetting 9 = .ok (.getfield 14, 3) := by decide +kernel
theorem dX5_writeSetting_12 : decode cX5_writeSetting 12 = .ok (.iload_n 2, 1) := by decide +kernel
theorem dX5_writeSetting_13 : decode cX5_writeSetting 13 = .ok (.invokevirtual 37, 3) := by decide +kernel
theorem dX5_writeSetting_16 : decode cX5_writeSetting 16 = .ok (.pop, 1) := by decide +kernel
theorem dX5_writeSetting_17 : decode cX5_writeSetting 17 = .ok (.aload_n 0, 1) := by decide +kernel
theorem dX5_writeSetting_18 : decode cX5_writeSetting 18 = .ok (.aload_n 1, 1) := by decide +kernel
theorem dX5_writeSetting_19 : decode cX5_writeSetting 19 = .ok (.getfield 67, 3) := by decide +kernel
theorem dX5_writeSetting_22 : decode cX5_writeSetting 22 = .ok (.invokevirtual 50, 3) := by decide +kernel
theorem dX5_writeSetting_25 : decode cX5_writeSetting 25 = .ok (.return_, 1) := by decide +kernel
theorem dX5_writeCloser_0 : decode cX5_writeCloser 0 = .ok (.aload_n 1, 1) := by decide +kernel
theorem dX5_writeCloser_1 : decode cX5_writeCloser 1 = .ok (.ifnull 31, 3) := by decide +kernel
theorem dX5_writeCloser_4 : decode cX5_writeCloser 4 = .ok (.aload_n 0, 1) := by decide +kernel
theorem dX5_writeCloser_5 : decode cX5_writeCloser 5 = .ok (.getfield 14, 3) := by decide +kernel
theorem dX5_writeCloser_8 : decode cX5_writeCloser 8 = .ok (.bipush 123, 2) := by decide +kernel
theorem dX5_writeCloser_10 : decode cX5_writeCloser 10 = .ok (.invokevirtual 37, 3) := by decide +kernel
theorem dX5_writeCloser_13 : decode cX5_writeCloser 13 = .ok (.pop, 1) := by decide +kernel
theorem dX5_writeCloser_14 : decode cX5_writeCloser 14 = .ok (.aload_n 0, 1) := by decide +kernel
theorem dX5_writeCloser_15 : decode cX5_writeCloser 15 = .ok (.aload_n 1, 1) := by decide +kernel
theorem dX5_writeCloser_16 : decode cX5_writeCloser 16 = .ok (.iload_n 2, 1) := by decide +kernel
theorem dX5_writeCloser_17 : decode cX5_writeCloser 17 = .ok (.iconst 1, 1) := by decide +kernel
theorem dX5_writeCloser_18 : decode cX5_writeCloser 18 = .ok (.iadd, 1) := by decide +kernel
theorem dX5_writeCloser_19 : decode cX5_writeCloser 19 = .ok (.invokevirtual 24, 3) := by decide +kernel
theorem dX5_writeCloser_22 : decode cX5_writeCloser 22 = .ok (.aload_n 0, 1) := by decide +kernel
theorem dX5_writeCloser_23 : decode cX5_writeCloser 23 = .ok (.getfield 14, 3) := by decide +kernel
theorem dX5_writeCloser_26 : decode cX5_writeCloser 26 = .ok (.bipush 125, 2) := by decide +kernel
theorem dX5_writeCloser_28 : decode cX5_writeCloser 28 = .ok (.invokevirtual 37, 3) := by decide +kernel
theorem dX5_writeCloser_31 : decode cX5_writeCloser 31 = .ok (.pop, 1) := by decide +kernel
theorem dX5_writeCloser_32 : decode cX5_writeCloser 32 = .ok (.return_, 1) := by decide +kernel
theorem dX5_writeName_0 : decode cX5_writeName 0 = .ok (.iconst 0, 1) := by decide +kernel
theorem dX5_writeName_1 : decode cX5_writeName 1 = .ok (.istore_n 3, 1) := by decide +kernel
theorem dX5_writeName_2 : decode cX5_writeName 2 = .ok (.iload_n 3, 1) := by decide +kernel
theorem dX5_writeName_3 : decode cX5_writeName 3 = .ok (.lload_n 1, 1) := by decide +kernel
theorem dX5_writeName_4 : decode cX5_writeName 4 = .ok (.invokestatic 70, 3) := by decide +kernel
theorem dX5_writeName_7 : decode cX5_writeName 7 = .ok (.if_icmp .ge 22, 3) := by decide +kernel
theorem dX5_writeName_10 : decode cX5_writeName 10 = .ok (.aload_n 0, 1) := by decide +kernel
theorem dX5_writeName_11 : decode cX5_writeName 11 = .ok (.getfield 14, 3) := by decide +kernel
theorem dX5_writeName_14 : decode cX5_writeName 14 = .ok (.lload_n 1, 1) := by decide +kernel
theorem dX5_writeName_15 : decode cX5_writeName 15 = .ok (.iload_n 3, 1) := by decide +kernel
theorem dX5_writeName_16 : decode cX5_writeName 16 = .ok (.invokestatic 74, 3) := by decide +kernel
theorem dX5_writeName_19 : decode cX5_writeName 19 = .ok (.invokevirtual 37, 3) := by decide +kernel
theorem dX5_writeName_22 : decode cX5_writeName 22 = .ok (.pop, 1) := by decide +kernel
theorem dX5_writeName_23 : decode cX5_writeName 23 = .ok (.iinc 3 1, 3) := by decide +kernel
theorem dX5_writeName_26 : decode cX5_writeName 26 = .ok (.goto (-24), 3) := by decide +kernel
theorem dX5_writeName_29 : decode cX5_writeName 29 = .ok (.return_, 1) := by decide +kernel
theorem dX5_writeNumber_0 : decode cX5_writeNumber 0 = .ok (.iload_n 1, 1) := by decide +kernel
theorem dX5_writeNumber_1 : decode cX5_writeNumber 1 = .ok (.ifCond .ge 8, 3) := by decide +kernel
theorem dX5_writeNumber_4 : decode cX5_writeNumber 4 = .ok (.iload_n 1, 1) := by decide +kernel
theorem dX5_writeNumber_5 : decode cX5_writeNumber 5 = .ok (.ineg, 1) := by decide +kernel
theorem dX5_writeNumber_6 : decode cX5_writeNumber 6 = .ok (.goto 4, 3) := by decide +kernel
theorem dX5_writeNumber_9 : decode cX5_writeNumber 9 = .ok (.iload_n 1, 1) := by decide +kernel
theorem dX5_writeNumber_10 : decode cX5_writeNumber 10 = .ok (.istore_n 2, 1) := by decide +kernel
theorem dX5_writeNumber_11 : decode cX5_writeNumber 11 = .ok (.iload_n 1, 1) := by decide +kernel
theorem dX5_writeNumber_12 : decode cX5_writeNumber 12 = .ok (.ifCond .ge 13, 3) := by decide +kernel
theorem dX5_writeNumber_15 : decode cX5_writeNumber 15 = .ok (.aload_n 0, 1) := by decide +kernel
theorem dX5_writeNumber_16 : decode cX5_writeNumber 16 = .ok (.getfield 14, 3) := by decide +kernel
theorem dX5_writeNumber_19 : decode cX5_writeNumber 19 = .ok (.bipush 45, 2) := by decide +kernel
theorem dX5_writeNumber_21 : decode cX5_writeNumber 21 = .ok (.invokevirtual 37, 3) := by decide +kernel
theorem dX5_writeNumber_24 : decode cX5_writeNumber 24 = .ok (.pop, 1) := by decide +kernel
theorem dX5_writeNumber_25 : decode cX5_writeNumber 25 = .ok (.sipush 10000, 3) := by decide +kernel
theorem dX5_writeNumber_28 : decode cX5_writeNumber 28 = .ok (.istore_n 3, 1) := by decide +kernel
theorem dX5_writeNumber_29 : decode cX5_writeNumber 29 = .ok (.iload_n 3, 1) := by decide +kernel
theorem dX5_writeNumber_30 : decode cX5_writeNumber 30 = .ok (.ifCond .le 38, 3) := by decide +kernel
theorem dX5_writeNumber_33 : decode cX5_writeNumber 33 = .ok (.iload_n 2, 1) := by decide +kernel
theorem dX5_writeNumber_34 : decode cX5_writeNumber 34 = .ok (.iload_n 3, 1) := by decide +kernel
theorem dX5_writeNumber_35 : decode cX5_writeNumber 35 = .ok (.if_icmp .ge 8, 3) := by decide +kernel
theorem dX5_writeNumber_38 : decode cX5_writeNumber 38 = .ok (.iload_n 3, 1) := by decide +kernel
theorem dX5_writeNumber_39 : decode cX5_writeNumber 39 = .ok (.iconst 1, 1) := by decide +kernel
theorem dX5_writeNumber_40 : decode cX5_writeNumber 40 = .ok (.if_icmp .ne 20, 3) := by decide +kernel
theorem dX5_writeNumber_43 : decode cX5_writeNumber 43 = .ok (.aload_n 0, 1) := by decide +kernel
theorem dX5_writeNumber_44 : decode cX5_writeNumber 44 = .ok (.getfield 14, 3) := by decide +kernel
theorem dX5_writeNumber_47 : decode cX5_writeNumber 47 = .ok (.bipush 48, 2) := by decide +kernel
theorem dX5_writeNumber_49 : decode cX5_writeNumber 49 = .ok (.iload_n 2, 1) := by decide +kernel
theorem dX5_writeNumber_50 : decode cX5_writeNumber 50 = .ok (.iload_n 3, 1) := by decide +kernel
theorem dX5_writeNumber_51 : decode cX5_writeNumber 51 = .ok (.idiv, 1) := by decide +kernel
theorem dX5_writeNumber_52 : decode cX5_writeNumber 52 = .ok (.bipush 10, 2) := by decide +kernel
theorem dX5_writeNumber_54 : decode cX5_writeNumber 54 = .ok (.irem, 1) := by decide +kernel
theorem dX5_writeNumber_55 : decode cX5_writeNumber 55 = .ok (.iadd, 1) := by decide +kernel
theorem dX5_writeNumber_56 : decode cX5_writeNumber 56 = .ok (.invokevirtual 37, 3) := by decide +kernel
theorem dX5_writeNumber_59 : decode cX5_writeNumber 59 = .ok (.pop, 1) := by decide +kernel
theorem dX5_writeNumber_60 : decode cX5_writeNumber 60 = .ok (.iload_n 3, 1) := by decide +kernel
theorem dX5_writeNumber_61 : decode cX5_writeNumber 61 = .ok (.bipush 10, 2) := by decide +kernel
theorem dX5_writeNumber_63 : decode cX5_writeNumber 63 = .ok (.idiv, 1) := by decide +kernel
theorem dX5_writeNumber_64 : decode cX5_writeNumber 64 = .ok (.istore_n 3, 1) := by decide +kernel
theorem dX5_writeNumber_65 : decode cX5_writeNumber 65 = .ok (.goto (-36), 3) := by decide +kernel
theorem dX5_writeNumber_68 : decode cX5_writeNumber 68 = .ok (.return_, 1) := by decide +kernel
theorem dX6_init_0 : decode cX6_init 0 = .ok (.aload_n 0, 1) := by decide +kernel
theorem dX6_init_1 : decode cX6_init 1 = .ok (.invokespecial 1, 3) := by decide +kernel
theorem dX6_init_4 : decode cX6_init 4 = .ok (.aload_n 0, 1) := by decide +kernel
theorem dX6_init_5 : decode cX6_init 5 = .ok (.iload_n 1, 1) := by decide +kernel
theorem dX6_init_6 : decode cX6_init 6 = .ok (.putfield 7, 3) := by decide +kernel
theorem dX6_init_9 : decode cX6_init 9 = .ok (.return_, 1) := by decide +kernel
theorem dX7_init_0 : decode cX7_init 0 = .ok (.aload_n 0, 1) := by decide +kernel
theorem dX7_init_1 : decode cX7_init 1 = .ok (.invokespecial 3, 3) := by decide +kernel
theorem dX7_init_4 : decode cX7_init 4 = .ok (.return_, 1) := by decide +kernel
theorem dX7_start_0 : decode cX7_start 0 = .ok (.aload_n 0, 1) := by decide +kernel
theorem dX7_start_1 : decode cX7_start 1 = .ok (.aload_n 1, 1) := by decide +kernel
theorem dX7_start_2 : decode cX7_start 2 = .ok (.putfield 9, 3) := by decide +kernel
theorem dX7_start_5 : decode cX7_start 5 = .ok (.aload_n 0, 1) := by decide +kernel
theorem dX7_start_6 : decode cX7_start 6 = .ok (.aload_n 1, 1) := by decide +kernel
theorem dX7_start_7 : decode cX7_start 7 = .ok (.putfield 15, 3) := by decide +kernel
theorem dX7_start_10 : decode cX7_start 10 = .ok (.aload_n 0, 1) := by decide +kernel
theorem dX7_start_11 : decode cX7_start 11 = .ok (.iconst 0, 1) := by decide +kernel
theorem dX7_start_12 : decode cX7_start 12 = .ok (.putfield 18, 3) := by decide +kernel
theorem dX7_start_15 : decode cX7_start 15 = .ok (.aload_n 0, 1) := by decide +kernel
theorem dX7_start_16 : decode cX7_start 16 = .ok (.iconst 0, 1) := by decide +kernel
theorem dX7_start_17 : decode cX7_start 17 = .ok (.putfield 22, 3) := by decide +kernel
theorem dX7_start_20 : decode cX7_start 20 = .ok (.aload_n 0, 1) := by decide +kernel
theorem dX7_start_21 : decode cX7_start 21 = .ok (.iload_n 3, 1) := by decide +kernel
theorem dX7_start_22 : decode cX7_start 22 = .ok (.putfield 25, 3) := by decide +kernel
theorem dX7_start_25 : decode cX7_start 25 = .ok (.aload_n 0, 1) := by decide +kernel
theorem dX7_start_26 : decode cX7_start 26 = .ok (.iconst 0, 1) := by decide +kernel
theorem dX7_start_27 : decode cX7_start 27 = .ok (.putfield 28, 3) := by decide +kernel
theorem dX7_start_30 : decode cX7_start 30 = .ok (.aload_n 0, 1) := by decide +kernel
theorem dX7_start_31 : decode cX7_start 31 = .ok (.iconst 0, 1) := by decide +kernel
theorem dX7_start_32 : decode cX7_start 32 = .ok (.putfield 31, 3) := by decide +kernel
theorem dX7_start_35 : decode cX7_start 35 = .ok (.aload_n 0, 1) := by decide +kernel
theorem dX7_start_36 : decode cX7_start 36 = .ok (.iload_n 2, 1) := by decide +kernel
theorem dX7_start_37 : decode cX7_start 37 = .ok (.putfield 34, 3) := by decide +kernel
theorem dX7_start_40 : decode cX7_start 40 = .ok (.aload_n 0, 1) := by decide +kernel
theorem dX7_start_41 : decode cX7_start 41 = .ok (.iload_n 2, 1) := by decide +kernel
theorem dX7_start_42 : decode cX7_start 42 = .ok (.putfield 37, 3) := by decide +kernel
theorem dX7_start_45 : decode cX7_start 45 = .ok (.aload_n 0, 1) := by decide +kernel
theorem dX7_start_46 : decode cX7_start 46 = .ok (.iconst 0, 1) := by decide +kernel
theorem dX7_start_47 : decode cX7_start 47 = .ok (.putfield 40, 3) := by decide +kernel
theorem dX7_start_50 : decode cX7_start 50 = .ok (.aload_n 0, 1) := by decide +kernel
theorem dX7_start_51 : decode cX7_start 51 = .ok (.iconst 0, 1) := by decide +kernel
theorem dX7_start_52 : decode cX7_start 52 = .ok (.putfield 43, 3) := by decide +kernel
theorem dX7_start_55 : decode cX7_start 55 = .ok (.return_, 1) := by decide +kernel
theorem dX7_become_0 : decode cX7_become 0 = .ok (.aload_n 0, 1) := by decide +kernel
theorem dX7_become_1 : decode cX7_become 1 = .ok (.aload_n 1, 1) := by decide +kernel
theorem dX7_become_2 : decode cX7_become 2 = .ok (.getfield 9, 3) := by decide +kernel
theorem dX7_become_5 : decode cX7_become 5 = .ok (.aload_n 1, 1) := by decide +kernel
theorem dX7_become_6 : decode cX7_become 6 = .ok (.getfield 34, 3) := by decide +kernel
theorem dX7_become_9 : decode cX7_become 9 = .ok (.aload_n 1, 1) := by decide +kernel
theorem dX7_become_10 : decode cX7_become 10 = .ok (.getfield 25, 3) := by decide +kernel
theorem dX7_become_13 : decode cX7_become 13 = .ok (.invokevirtual 47, 3) := by decide +kernel
theorem dX7_become_16 : decode cX7_become 16 = .ok (.aload_n 0, 1) := by decide +kernel
theorem dX7_become_17 : decode cX7_become 17 = .ok (.aload_n 1, 1) := by decide +kernel
theorem dX7_become_18 : decode cX7_become 18 = .ok (.getfield 15, 3) := by decide +kernel
theorem dX7_become_21 : decode cX7_become 21 = .ok (.putfield 15, 3) := by decide +kernel
theorem dX7_become_24 : decode cX7_become 24 = .ok (.aload_n 0, 1) := by decide +kernel
theorem dX7_become_25 : decode cX7_become 25 = .ok (.aload_n 1, 1) := by decide +kernel
theorem dX7_become_26 : decode cX7_become 26 = .ok (.getfield 18, 3) := by decide +kernel
theorem dX7_become_29 : decode cX7_become 29 = .ok (.putfield 18, 3) := by decide +kernel
theorem dX7_become_32 : decode cX7_become 32 = .ok (.aload_n 0, 1) := by decide +kernel
theorem dX7_become_33 : decode cX7_become 33 = .ok (.aload_n 1, 1) := by decide +kernel
theorem dX7_become_34 : decode cX7_become 34 = .ok (.getfield 22, 3) := by decide +kernel
theorem dX7_become_37 : decode cX7_become 37 = .ok (.putfield 22, 3) := by decide +kernel
theorem dX7_become_40 : decode cX7_become 40 = .ok (.aload_n 0, 1) := by decide +kernel
theorem dX7_become_41 : decode cX7_become 41 = .ok (.aload_n 1, 1) := by decide +kernel
theorem dX7_become_42 : decode cX7_become 42 = .ok (.getfield 28, 3) := by decide +kernel
theorem dX7_become_45 : decode cX7_become 45 = .ok (.putfield 28, 3) := by decide +kernel
theorem dX7_become_48 : decode cX7_become 48 = .ok (.aload_n 0, 1) := by decide +kernel
theorem dX7_become_49 : decode cX7_become 49 = .ok (.aload_n 1, 1) := by decide +kernel
theorem dX7_become_50 : decode cX7_become 50 = .ok (.getfield 31, 3) := by decide +kernel
theorem dX7_become_53 : decode cX7_become 53 = .ok (.putfield 31, 3) := by decide +kernel
theorem dX7_become_56 : decode cX7_become 56 = .ok (.aload_n 0, 1) := by decide +kernel
theorem dX7_become_57 : decode cX7_become 57 = .ok (.aload_n 1, 1) := by decide +kernel
theorem dX7_become_58 : decode cX7_become 58 = .ok (.getfield 37, 3) := by decide +kernel
theorem dX7_become_61 : decode cX7_become 61 = .ok (.putfield 37, 3) := by decide +kernel
theorem dX7_become_64 : decode cX7_become 64 = .ok (.aload_n 0, 1) := by decide +kernel
theorem dX7_become_65 : decode cX7_become 65 = .ok (.aload_n 1, 1) := by decide +kernel
theorem dX7_become_66 : decode cX7_become 66 = .ok (.getfield 40, 3) := by decide +kernel
theorem dX7_become_69 : decode cX7_become 69 = .ok (.putfield 40, 3) := by decide +kernel
theorem dX7_become_72 : decode cX7_become 72 = .ok (.aload_n 0, 1) := by decide +kernel
theorem dX7_become_73 : decode cX7_become 73 = .ok (.aload_n 1, 1) := by decide +kernel
theorem dX7_become_74 : decode cX7_become 74 = .ok (.getfield 43, 3) := by decide +kernel
theorem dX7_become_77 : decode cX7_become 77 = .ok (.putfield 43, 3) := by decide +kernel
theorem dX7_become_80 : decode cX7_become 80 = .ok (.return_, 1) := by decide +kernel
theorem dX7_comesAheadOf_0 : decode cX7_comesAheadOf 0 = .ok (.aload_n 0, 1) := by decide +kernel
theorem dX7_comesAheadOf_1 : decode cX7_comesAheadOf 1 = .ok (.getfield 25, 3) := by decide +kernel
theorem dX7_comesAheadOf_4 : decode cX7_comesAheadOf 4 = .ok (.aload_n 1, 1) := by decide +kernel
theorem dX7_comesAheadOf_5 : decode cX7_comesAheadOf 5 = .ok (.getfield 25, 3) := by decide +kernel
theorem dX7_comesAheadOf_8 : decode cX7_comesAheadOf 8 = .ok (.if_icmp .eq 22, 3) := by decide +kernel
theorem dX7_comesAheadOf_11 : decode cX7_comesAheadOf 11 = .ok (.aload_n 0, 1) := by decide +kernel
theorem dX7_comesAheadOf_12 : decode cX7_comesAheadOf 12 = .ok (.getfield 25, 3) := by decide +kernel
theorem dX7_comesAheadOf_15 : decode cX7_comesAheadOf 15 = .ok (.aload_n 1, 1) := by decide +kernel
theorem dX7_comesAheadOf_16 : decode cX7_comesAheadOf 16 = .ok (.getfield 25, 3) := by decide +kernel
theorem dX7_comesAheadOf_19 : decode cX7_comesAheadOf 19 = .ok (.if_icmp .le 7, 3) := by decide +kernel
theorem dX7_comesAheadOf_22 : decode cX7_comesAheadOf 22 = .ok (.iconst 1, 1) := by decide +kernel
theorem dX7_comesAheadOf_23 : decode cX7_comesAheadOf 23 = .ok (.goto 23, 3) := by decide +kernel
theorem dX7_comesAheadOf_26 : decode cX7_comesAheadOf 26 = .ok (.iconst 0, 1) := by decide +kernel
theorem dX7_comesAheadOf_27 : decode cX7_comesAheadOf 27 = .ok (.goto 19, 3) := by decide +kernel
theorem dX7_comesAheadOf_30 : decode cX7_comesAheadOf 30 = .ok (.aload_n 0, 1) := by decide +kernel
theorem dX7_comesAheadOf_31 : decode cX7_comesAheadOf 31 = .ok (.getfield 31, 3) := by decide +kernel
theorem dX7_comesAheadOf_34 : decode cX7_comesAheadOf 34 = .ok (.aload_n 1, 1) := by decide +kernel
theorem dX7_comesAheadOf_35 : decode cX7_comesAheadOf 35 = .ok (.getfield 31, 3) := by decide +kernel
theorem dX7_comesAheadOf_38 : decode cX7_comesAheadOf 38 = .ok (.if_icmp .ge 7, 3) := by decide +kernel
theorem dX7_comesAheadOf_41 : decode cX7_comesAheadOf 41 = .ok (.iconst 1, 1) := by decide +kernel
theorem dX7_comesAheadOf_42 : decode cX7_comesAheadOf 42 = .ok (.goto 4, 3) := by decide +kernel
theorem dX7_comesAheadOf_45 : decode cX7_comesAheadOf 45 = .ok (.iconst 0, 1) := by decide +kernel
theorem dX7_comesAheadOf_46 : decode cX7_comesAheadOf 46 = .ok (.ireturn, 1) := by decide +kernel
theorem dX8_init_0 : decode cX8_init 0 = .ok (.aload_n 0, 1) := by decide +kernel
theorem dX8_init_1 : decode cX8_init 1 = .ok (.invokespecial 1, 3) := by decide +kernel
theorem dX8_init_4 : decode cX8_init 4 = .ok (.return_, 1) := by decide +kernel
theorem dX8_become_0 : decode cX8_become 0 = .ok (.aload_n 0, 1) := by decide +kernel
theorem dX8_become_1 : decode cX8_become 1 = .ok (.aload_n 1, 1) := by decide +kernel
theorem dX8_become_2 : decode cX8_become 2 = .ok (.getfield 7, 3) := by decide +kernel
theorem dX8_become_5 : decode cX8_become 5 = .ok (.putfield 7, 3) := by decide +kernel
theorem dX8_become_8 : decode cX8_become 8 = .ok (.aload_n 0, 1) := by decide +kernel
theorem dX8_become_9 : decode cX8_become 9 = .ok (.aload_n 1, 1) := by decide +kernel
theorem dX8_become_10 : decode cX8_become 10 = .ok (.getfield 13, 3) := by decide +kernel
theorem dX8_become_13 : decode cX8_become 13 = .ok (.putfield 13, 3) := by decide +kernel
theorem dX8_become_16 : decode cX8_become 16 = .ok (.aload_n 0, 1) := by decide +kernel
theorem dX8_become_17 : decode cX8_become 17 = .ok (.aload_n 1, 1) := by decide +kernel
theorem dX8_become_18 : decode cX8_become 18 = .ok (.getfield 17, 3) := by decide +kernel
theorem dX8_become_21 : decode cX8_become 21 = .ok (.putfield 17, 3) := by decide +kernel
theorem dX8_become_24 : decode cX8_become 24 = .ok (.aload_n 0, 1) := by decide +kernel
theorem dX8_become_25 : decode cX8_become 25 = .ok (.aload_n 1, 1) := by decide +kernel
theorem dX8_become_26 : decode cX8_become 26 = .ok (.getfield 21, 3) := by decide +kernel
theorem dX8_become_29 : decode cX8_become 29 = .ok (.putfield 21, 3) := by decide +kernel
theorem dX8_become_32 : decode cX8_become 32 = .ok (.aload_n 0, 1) := by decide +kernel
theorem dX8_become_33 : decode cX8_become 33 = .ok (.aload_n 1, 1) := by decide +kernel
theorem dX8_become_34 : decode cX8_become 34 = .ok (.getfield 24, 3) := by decide +kernel
theorem dX8_become_37 : decode cX8_become 37 = .ok (.putfield 24, 3) := by decide +kernel
theorem dX8_become_40 : decode cX8_become 40 = .ok (.return_, 1) := by decide +kernel
theorem dX9_init_0 : decode cX9_init 0 = .ok (.aload_n 0, 1) := by decide +kernel
theorem dX9_init_1 : decode cX9_init 1 = .ok (.invokespecial 3, 3) := by decide +kernel
theorem dX9_init_4 : decode cX9_init 4 = .ok (.aload_n 0, 1) := by decide +kernel
theorem dX9_init_5 : decode cX9_init 5 = .ok (.bipush 90, 2) := by decide +kernel
theorem dX9_init_7 : decode cX9_init 7 = .ok (.anewarray 9, 3) := by decide +kernel
theorem dX9_init_10 : decode cX9_init 10 = .ok (.putfield 11, 3) := by decide +kernel
theorem dX9_init_13 : decode cX9_init 13 = .ok (.aload_n 0, 1) := by decide +kernel
theorem dX9_init_14 : decode cX9_init 14 = .ok (.bipush 60, 2) := by decide +kernel
theorem dX9_init_16 : decode cX9_init 16 = .ok (.anewarray 17, 3) := by decide +kernel
theorem dX9_init_19 : decode cX9_init 19 = .ok (.putfield 19, 3) := by decide +kernel
theorem dX9_init_22 : decode cX9_init 22 = .ok (.aload_n 0, 1) := by decide +kernel
theorem dX9_init_23 : decode cX9_init 23 = .ok (.bipush 10, 2) := by decide +kernel
theorem dX9_init_25 : decode cX9_init 25 = .ok (.anewarray 23, 3) := by decide +kernel
theorem dX9_init_28 : decode cX9_init 28 = .ok (.putfield 25, 3) := by decide +kernel
theorem dX9_init_31 : decode cX9_init 31 = .ok (.aload_n 0, 1) := by decide +kernel
theorem dX9_init_32 : decode cX9_init 32 = .ok (.new 29, 3) := by decide +kernel
theorem dX9_init_35 : decode cX9_init 35 = .ok (.dup, 1) := by decide +kernel
theorem dX9_init_36 : decode cX9_init 36 = .ok (.bipush 8, 2) := by decide +kernel
theorem dX9_init_38 : decode cX9_init 38 = .ok (.invokespecial 31, 3) := by decide +kernel
theorem dX9_init_41 : decode cX9_init 41 = .ok (.putfield 34, 3) := by decide +kernel
theorem dX9_init_44 : decode cX9_init 44 = .ok (.aload_n 0, 1) := by decide +kernel
theorem dX9_init_45 : decode cX9_init 45 = .ok (.new 29, 3) := by decide +kernel
theorem dX9_init_48 : decode cX9_init 48 = .ok (.dup, 1) := by decide +kernel
theorem dX9_init_49 : decode cX9_init 49 = .ok (.bipush 90, 2) := by decide +kernel
theorem dX9_init_51 : decode cX9_init 51 = .ok (.invokespecial 31, 3) := by decide +kernel
theorem dX9_init_54 : decode cX9_init 54 = .ok (.putfield 38, 3) := by decide +kernel
theorem dX9_init_57 : decode cX9_init 57 = .ok (.aload_n 0, 1) := by decide +kernel
theorem dX9_init_58 : decode cX9_init 58 = .ok (.new 29, 3) := by decide +kernel
theorem dX9_init_61 : decode cX9_init 61 = .ok (.dup, 1) := by decide +kernel
theorem dX9_init_62 : decode cX9_init 62 = .ok (.sipush 150, 3) := by decide +kernel
theorem dX9_init_65 : decode cX9_init 65 = .ok (.invokespecial 31, 3) := by decide +kernel
theorem dX9_init_68 : decode cX9_init 68 = .ok (.putfield 41, 3) := by decide +kernel
theorem dX9_init_71 : decode cX9_init 71 = .ok (.aload_n 0, 1) := by decide +kernel
theorem dX9_init_72 : decode cX9_init 72 = .ok (.new 44, 3) := by decide +kernel
theorem dX9_init_75 : decode cX9_init 75 = .ok (.dup, 1) := by decide +kernel
theorem dX9_init_76 : decode cX9_init 76 = .ok (.invokespecial 46, 3) := by decide +kernel
theorem dX9_init_79 : decode cX9_init 79 = .ok (.putfield 47, 3) := by decide +kernel
theorem dX9_init_82 : decode cX9_init 82 = .ok (.iconst 0, 1) := by decide +kernel
theorem dX9_init_83 : decode cX9_init 83 = .ok (.istore_n 1, 1) := by decide +kernel
theorem dX9_init_84 : decode cX9_init 84 = .ok (.iload_n 1, 1) := by decide +kernel
theorem dX9_init_85 : decode cX9_init 85 = .ok (.aload_n 0, 1) := by decide +kernel
theorem dX9_init_86 : decode cX9_init 86 = .ok (.getfield 11, 3) := by decide +kernel
theorem dX9_init_89 : decode cX9_init 89 = .ok (.arraylength, 1) := by decide +kernel
theorem dX9_init_90 : decode cX9_init 90 = .ok (.if_icmp .ge 22, 3) := by decide +kernel
theorem dX9_init_93 : decode cX9_init 93 = .ok (.aload_n 0, 1) := by decide +kernel
theorem dX9_init_94 : decode cX9_init 94 = .ok (.getfield 11, 3) := by decide +kernel
theorem dX9_init_97 : decode cX9_init 97 = .ok (.iload_n 1, 1) := by decide +kernel
theorem dX9_init_98 : decode cX9_init 98 = .ok (.new 9, 3) := by decide +kernel
theorem dX9_init_101 : decode cX9_init 101 = .ok (.dup, 1) := by decide +kernel
theorem dX9_init_102 : decode cX9_init 102 = .ok (.invokespecial 51, 3) := by decide +kernel
theorem dX9_init_105 : decode cX9_init 105 = .ok (.aastore, 1) := by decide +kernel
theorem dX9_init_106 : decode cX9_init 106 = .ok (.iinc 1 1, 3) := by decide +kernel
theorem dX9_init_109 : decode cX9_init 109 = .ok (.goto (-25), 3) := by decide +kernel
theorem dX9_init_112 : decode cX9_init 112 = .ok (.iconst 0, 1) := by decide +kernel
theorem dX9_init_113 : decode cX9_init 113 = .ok (.istore_n 1, 1) := by decide +kernel
theorem dX9_init_114 : decode cX9_init 114 = .ok (.iload_n 1, 1) := by decide +kernel
theorem dX9_init_115 : decode cX9_init 115 = .ok (.aload_n 0, 1) := by decide +kernel
theorem dX9_init_116 : decode cX9_init 116 = .ok (.getfield 19, 3) := by decide +kernel
theorem dX9_init_119 : decode cX9_init 119 = .ok (.arraylength, 1) := by decide +kernel
theorem dX9_init_120 : decode cX9_init 120 = .ok (.if_icmp .ge 22, 3) := by decide +kernel
theorem dX9_init_123 : decode cX9_init 123 = .ok (.aload_n 0, 1) := by decide +kernel
theorem dX9_init_124 : decode cX9_init 124 = .ok (.getfield 19, 3) := by decide +kernel
theorem dX9_init_127 : decode cX9_init 127 = .ok (.iload_n 1, 1) := by decide +kernel
theorem dX9_init_128 : decode cX9_init 128 = .ok (.new 17, 3) := by decide +kernel
theorem dX9_init_131 : decode cX9_init 131 = .ok (.dup, 1) := by decide +kernel
theorem dX9_init_132 : decode cX9_init 132 = .ok (.invokespecial 52, 3) := by decide +kernel
theorem dX9_init_135 : decode cX9_init 135 = .ok (.aastore, 1) := by decide +kernel
theorem dX9_init_136 : decode cX9_init 136 = .ok (.iinc 1 1, 3) := by decide +kernel
theorem dX9_init_139 : decode cX9_init 139 = .ok (.goto (-25), 3) := by decide +kernel
theorem dX9_init_142 : decode cX9_init 142 = .ok (.iconst 0, 1) := by decide +kernel
theorem dX9_init_143 : decode cX9_init 143 = .ok (.istore_n 1, 1) := by decide +kernel
theorem dX9_init_144 : decode cX9_init 144 = .ok (.iload_n 1, 1) := by decide +kernel
theorem dX9_init_145 : decode cX9_init 145 = .ok (.aload_n 0, 1) := by decide +kernel
theorem dX9_init_146 : decode cX9_init 146 = .ok (.getfield 25, 3) := by decide +kernel
theorem dX9_init_149 : decode cX9_init 149 = .ok (.arraylength, 1) := by decide +kernel
theorem dX9_init_150 : decode cX9_init 150 = .ok (.if_icmp .ge 22, 3) := by decide +kernel
theorem dX9_init_153 : decode cX9_init 153 = .ok (.aload_n 0, 1) := by decide +kernel
theorem dX9_init_154 : decode cX9_init 154 = .ok (.getfield 25, 3) := by decide +kernel
theorem dX9_init_157 : decode cX9_init 157 = .ok (.iload_n 1, 1) := by decide +kernel
theorem dX9_init_158 : decode cX9_init 158 = .ok (.new 23, 3) := by decide +kernel
theorem dX9_init_161 : decode cX9_init 161 = .ok (.dup, 1) := by decide +kernel
theorem dX9_init_162 : decode cX9_init 162 = .ok (.invokespecial 53, 3) := by decide +kernel
theorem dX9_init_165 : decode cX9_init 165 = .ok (.aastore, 1) := by decide +kernel
theorem dX9_init_166 : decode cX9_init 166 = .ok (.iinc 1 1, 3) := by decide +kernel
theorem dX9_init_169 : decode cX9_init 169 = .ok (.goto (-25), 3) := by decide +kernel
theorem dX9_init_172 : decode cX9_init 172 = .ok (.aload_n 0, 1) := by decide +kernel
theorem dX9_init_173 : decode cX9_init 173 = .ok (.getfield 34, 3) := by decide +kernel
theorem dX9_init_176 : decode cX9_init 176 = .ok (.bipush 8, 2) := by decide +kernel
theorem dX9_init_178 : decode cX9_init 178 = .ok (.invokevirtual 54, 3) := by decide +kernel
theorem dX9_init_181 : decode cX9_init 181 = .ok (.aload_n 0, 1) := by decide +kernel
theorem dX9_init_182 : decode cX9_init 182 = .ok (.iconst 1, 1) := by decide +kernel
theorem dX9_init_183 : decode cX9_init 183 = .ok (.putfield 57, 3) := by decide +kernel
theorem dX9_init_186 : decode cX9_init 186 = .ok (.aload_n 0, 1) := by decide +kernel
theorem dX9_init_187 : decode cX9_init 187 = .ok (.iconst 0, 1) := by decide +kernel
theorem dX9_init_188 : decode cX9_init 188 = .ok (.invokevirtual 61, 3) := by decide +kernel
theorem dX9_init_191 : decode cX9_init 191 = .ok (.astore_n 1, 1) := by decide +kernel
theorem dX9_init_192 : decode cX9_init 192 = .ok (.aload_n 1, 1) := by decide +kernel
theorem dX9_init_193 : decode cX9_init 193 = .ok (.ifnull 15, 3) := by decide +kernel
theorem dX9_init_196 : decode cX9_init 196 = .ok (.aload_n 1, 1) := by decide +kernel
theorem dX9_init_197 : decode cX9_init 197 = .ok (.bipush (-5), 2) := by decide +kernel
theorem dX9_init_199 : decode cX9_init 199 = .ok (.putfield 65, 3) := by decide +kernel
theorem dX9_init_202 : decode cX9_init 202 = .ok (.aload_n 1, 1) := by decide +kernel
theorem dX9_init_203 : decode cX9_init 203 = .ok (.bipush (-5), 2) := by decide +kernel
theorem dX9_init_205 : decode cX9_init 205 = .ok (.putfield 68, 3) := by decide +kernel
theorem dX9_init_208 : decode cX9_init 208 = .ok (.return_, 1) := by decide +kernel
theorem dX9_become_0 : decode cX9_become 0 = .ok (.aload_n 0, 1) := by decide +kernel
theorem dX9_become_1 : decode cX9_become 1 = .ok (.aload_n 1, 1) := by decide +kernel
theorem dX9_become_2 : decode cX9_become 2 = .ok (.getfield 71, 3) := by decide +kernel
theorem dX9_become_5 : decode cX9_become 5 = .ok (.putfield 71, 3) := by decide +kernel
theorem dX9_become_8 : decode cX9_become 8 = .ok (.iconst 0, 1) := by decide +kernel
theorem dX9_become_9 : decode cX9_become 9 = .ok (.istore_n 2, 1) := by decide +kernel
theorem dX9_become_10 : decode cX9_become 10 = .ok (.iload_n 2, 1) := by decide +kernel
theorem dX9_become_11 : decode cX9_become 11 = .ok (.aload_n 0, 1) := by decide +kernel
theorem dX9_become_12 : decode cX9_become 12 = .ok (.getfield 71, 3) := by decide +kernel
theorem dX9_become_15 : decode cX9_become 15 = .ok (.if_icmp .ge 42, 3) := by decide +kernel
theorem dX9_become_18 : decode cX9_become 18 = .ok (.iload_n 2, 1) := by decide +kernel
theorem dX9_become_19 : decode cX9_become 19 = .ok (.aload_n 0, 1) := by decide +kernel
theorem dX9_become_20 : decode cX9_become 20 = .ok (.getfield 11, 3) := by decide +kernel
theorem dX9_become_23 : decode cX9_become 23 = .ok (.arraylength, 1) := by decide +kernel
theorem dX9_become_24 : decode cX9_become 24 = .ok (.if_icmp .ge 33, 3) := by decide +kernel
theorem dX9_become_27 : decode cX9_become 27 = .ok (.iload_n 2, 1) := by decide +kernel
theorem dX9_become_28 : decode cX9_become 28 = .ok (.aload_n 1, 1) := by decide +kernel
theorem dX9_become_29 : decode cX9_become 29 = .ok (.getfield 11, 3) := by decide +kernel
theorem dX9_become_32 : decode cX9_become 32 = .ok (.arraylength, 1) := by decide +kernel
theorem dX9_become_33 : decode cX9_become 33 = .ok (.if_icmp .ge 24, 3) := by decide +kernel
theorem dX9_become_36 : decode cX9_become 36 = .ok (.aload_n 0, 1) := by decide +kernel
theorem dX9_become_37 : decode cX9_become 37 = .ok (.getfield 11, 3) := by decide +kernel
theorem dX9_become_40 : decode cX9_become 40 = .ok (.iload_n 2, 1) := by decide +kernel
theorem dX9_become_41 : decode cX9_become 41 = .ok (.aaload, 1) := by decide +kernel
theorem dX9_become_42 : decode cX9_become 42 = .ok (.aload_n 1, 1) := by decide +kernel
theorem dX9_become_43 : decode cX9_become 43 = .ok (.getfield 11, 3) := by decide +kernel
theorem dX9_become_46 : decode cX9_become 46 = .ok (.iload_n 2, 1) := by decide +kernel
theorem dX9_become_47 : decode cX9_become 47 = .ok (.aaload, 1) := by decide +kernel
theorem dX9_become_48 : decode cX9_become 48 = .ok (.invokevirtual 74, 3) := by decide +kernel
theorem dX9_become_51 : decode cX9_become 51 = .ok (.iinc 2 1, 3) := by decide +kernel
theorem dX9_become_54 : decode cX9_become 54 = .ok (.goto (-44), 3) := by decide +kernel
theorem dX9_become_57 : decode cX9_become 57 = .ok (.aload_n 0, 1) := by decide +kernel
theorem dX9_become_58 : decode cX9_become 58 = .ok (.aload_n 1, 1) := by decide +kernel
theorem dX9_become_59 : decode cX9_become 59 = .ok (.getfield 57, 3) := by decide +kernel
theorem dX9_become_62 : decode cX9_become 62 = .ok (.putfield 57, 3) := by decide +kernel
theorem dX9_become_65 : decode cX9_become 65 = .ok (.iconst 0, 1) := by decide +kernel
theorem dX9_become_66 : decode cX9_become 66 = .ok (.istore_n 2, 1) := by decide +kernel
theorem dX9_become_67 : decode cX9_become 67 = .ok (.iload_n 2, 1) := by decide +kernel
theorem dX9_become_68 : decode cX9_become 68 = .ok (.aload_n 0, 1) := by decide +kernel
theorem dX9_become_69 : decode cX9_become 69 = .ok (.getfield 57, 3) := by decide +kernel
theorem dX9_become_72 : decode cX9_become 72 = .ok (.if_icmp .ge 42, 3) := by decide +kernel
theorem dX9_become_75 : decode cX9_become 75 = .ok (.iload_n 2, 1) := by decide +kernel
theorem dX9_become_76 : decode cX9_become 76 = .ok (.aload_n 0, 1) := by decide +kernel
theorem dX9_become_77 : decode cX9_become 77 = .ok (.getfield 19, 3) := by decide +kernel
theorem dX9_become_80 : decode cX9_become 80 = .ok (.arraylength, 1) := by decide +kernel
theorem dX9_become_81 : decode cX9_become 81 = .ok (.if_icmp .ge 33, 3) := by decide +kernel
theorem dX9_become_84 : decode cX9_become 84 = .ok (.iload_n 2, 1) := by decide +kernel
theorem dX9_become_85 : decode cX9_become 85 = .ok (.aload_n 1, 1) := by decide +kernel
theorem dX9_become_86 : decode cX9_become 86 = .ok (.getfield 19, 3) := by decide +kernel
theorem dX9_become_89 : decode cX9_become 89 = .ok (.arraylength, 1) := by decide +kernel
theorem dX9_become_90 : decode cX9_become 90 = .ok (.if_icmp .ge 24, 3) := by decide +kernel
theorem dX9_become_93 : decode cX9_become 93 = .ok (.aload_n 0, 1) := by decide +kernel
theorem dX9_become_94 : decode cX9_become 94 = .ok (.getfield 19, 3) := by decide +kernel
theorem dX9_become_97 : decode cX9_become 97 = .ok (.iload_n 2, 1) := by decide +kernel
theorem dX9_become_98 : decode cX9_become 98 = .ok (.aaload, 1) := by decide +kernel
theorem dX9_become_99 : decode cX9_become 99 = .ok (.aload_n 1, 1) := by decide +kernel
theorem dX9_become_100 : decode cX9_become 100 = .ok (.getfield 19, 3) := by decide +kernel
theorem dX9_become_103 : decode cX9_become 103 = .ok (.iload_n 2, 1) := by decide +kernel
theorem dX9_become_104 : decode cX9_become 104 = .ok (.aaload, 1) := by decide +kernel
theorem dX9_become_105 : decode cX9_become 105 = .ok (.invokevirtual 78, 3) := by decide +kernel
theorem dX9_become_108 : decode cX9_become 108 = .ok (.iinc 2 1, 3) := by decide +kernel
theorem dX9_become_111 : decode cX9_become 111 = .ok (.goto (-44), 3) := by decide +kernel
theorem dX9_become_114 : decode cX9_become 114 = .ok (.aload_n 0, 1) := by decide +kernel
theorem dX9_become_115 : decode cX9_become 115 = .ok (.aload_n 1, 1) := by decide +kernel
theorem dX9_become_116 : decode cX9_become 116 = .ok (.getfield 81, 3) := by decide +kernel
theorem dX9_become_119 : decode cX9_become 119 = .ok (.putfield 81, 3) := by decide +kernel
theorem dX9_become_122 : decode cX9_become 122 = .ok (.iconst 0, 1) := by decide +kernel
theorem dX9_become_123 : decode cX9_become 123 = .ok (.istore_n 2, 1) := by decide +kernel
theorem dX9_become_124 : decode cX9_become 124 = .ok (.iload_n 2, 1) := by decide +kernel
theorem dX9_become_125 : decode cX9_become 125 = .ok (.aload_n 0, 1) := by decide +kernel
theorem dX9_become_126 : decode cX9_become 126 = .ok (.getfield 81, 3) := by decide +kernel
theorem dX9_become_129 : decode cX9_become 129 = .ok (.if_icmp .ge 42, 3) := by decide +kernel
theorem dX9_become_132 : decode cX9_become 132 = .ok (.iload_n 2, 1) := by decide +kernel
theorem dX9_become_133 : decode cX9_become 133 = .ok (.aload_n 0, 1) := by decide +kernel
theorem dX9_become_134 : decode cX9_become 134 = .ok (.getfield 25, 3) := by decide +kernel
theorem dX9_become_137 : decode cX9_become 137 = .ok (.arraylength, 1) := by decide +kernel
theorem dX9_become_138 : decode cX9_become 138 = .ok (.if_icmp .ge 33, 3) := by decide +kernel
theorem dX9_become_141 : decode cX9_become 141 = .ok (.iload_n 2, 1) := by decide +kernel
theorem dX9_become_142 : decode cX9_become 142 = .ok (.aload_n 1, 1) := by decide +kernel
theorem dX9_become_143 : decode cX9_become 143 = .ok (.getfield 25, 3) := by decide +kernel
theorem dX9_become_146 : decode cX9_become 146 = .ok (.arraylength, 1) := by decide +kernel
theorem dX9_become_147 : decode cX9_become 147 = .ok (.if_icmp .ge 24, 3) := by decide +kernel
theorem dX9_become_150 : decode cX9_become 150 = .ok (.aload_n 0, 1) := by decide +kernel
theorem dX9_become_151 : decode cX9_become 151 = .ok (.getfield 25, 3) := by decide +kernel
theorem dX9_become_154 : decode cX9_become 154 = .ok (.iload_n 2, 1) := by decide +kernel
theorem dX9_become_155 : decode cX9_become 155 = .ok (.aaload, 1) := by decide +kernel
theorem dX9_become_156 : decode cX9_become 156 = .ok (.aload_n 1, 1) := by decide +kernel
theorem dX9_become_157 : decode cX9_become 157 = .ok (.getfield 25, 3) := by decide +kernel
theorem dX9_become_160 : decode cX9_become 160 = .ok (.iload_n 2, 1) := by decide +kernel
theorem dX9_become_161 : decode cX9_become 161 = .ok (.aaload, 1) := by decide +kernel
theorem dX9_become_162 : decode cX9_become 162 = .ok (.invokevirtual 84, 3) := by decide +kernel
theorem dX9_become_165 : decode cX9_become 165 = .ok (.iinc 2 1, 3) := by decide +kernel
theorem dX9_become_168 : decode cX9_become 168 = .ok (.goto (-44), 3) := by decide +kernel
theorem dX9_become_171 : decode cX9_become 171 = .ok (.aload_n 0, 1) := by decide +kernel
theorem dX9_become_172 : decode cX9_become 172 = .ok (.aload_n 1, 1) := by decide +kernel
theorem dX9_become_173 : decode cX9_become 173 = .ok (.getfield 87, 3) := by decide +kernel
theorem dX9_become_176 : decode cX9_become 176 = .ok (.putfield 87, 3) := by decide +kernel
theorem dX9_become_179 : decode cX9_become 179 = .ok (.aload_n 0, 1) := by decide +kernel
theorem dX9_become_180 : decode cX9_become 180 = .ok (.getfield 34, 3) := by decide +kernel
theorem dX9_become_183 : decode cX9_become 183 = .ok (.aload_n 1, 1) := by decide +kernel
theorem dX9_become_184 : decode cX9_become 184 = .ok (.getfield 34, 3) := by decide +kernel
theorem dX9_become_187 : decode cX9_become 187 = .ok (.invokevirtual 90, 3) := by decide +kernel
theorem dX9_become_190 : decode cX9_become 190 = .ok (.aload_n 0, 1) := by decide +kernel
theorem dX9_become_191 : decode cX9_become 191 = .ok (.getfield 38, 3) := by decide +kernel
theorem dX9_become_194 : decode cX9_become 194 = .ok (.aload_n 1, 1) := by decide +kernel
theorem dX9_become_195 : decode cX9_become 195 = .ok (.getfield 38, 3) := by decide +kernel
theorem dX9_become_198 : decode cX9_become 198 = .ok (.invokevirtual 90, 3) := by decide +kernel
theorem dX9_become_201 : decode cX9_become 201 = .ok (.aload_n 0, 1) := by decide +kernel
theorem dX9_become_202 : decode cX9_become 202 = .ok (.getfield 41, 3) := by decide +kernel
theorem dX9_become_205 : decode cX9_become 205 = .ok (.aload_n 1, 1) := by decide +kernel
theorem dX9_become_206 : decode cX9_become 206 = .ok (.getfield 41, 3) := by decide +kernel
theorem dX9_become_209 : decode cX9_become 209 = .ok (.invokevirtual 90, 3) := by decide +kernel
theorem dX9_become_212 : decode cX9_become 212 = .ok (.aload_n 0, 1) := by decide +kernel
theorem dX9_become_213 : decode cX9_become 213 = .ok (.getfield 47, 3) := by decide +kernel
theorem dX9_become_216 : decode cX9_become 216 = .ok (.aload_n 1, 1) := by decide +kernel
theorem dX9_become_217 : decode cX9_become 217 = .ok (.getfield 47, 3) := by decide +kernel
theorem dX9_become_220 : decode cX9_become 220 = .ok (.invokevirtual 93, 3) := by decide +kernel
theorem dX9_become_223 : decode cX9_become 223 = .ok (.return_, 1) := by decide +kernel
theorem dX9_thingAt_0 : decode cX9_thingAt 0 = .ok (.iload_n 1, 1) := by decide +kernel
theorem dX9_thingAt_1 : decode cX9_thingAt 1 = .ok (.ifCond .lt 20, 3) := by decide +kernel
theorem dX9_thingAt_4 : decode cX9_thingAt 4 = .ok (.iload_n 1, 1) := by decide +kernel
theorem dX9_thingAt_5 : decode cX9_thingAt 5 = .ok (.aload_n 0, 1) := by decide +kernel
theorem dX9_thingAt_6 : decode cX9_thingAt 6 = .ok (.getfield 71, 3) := by decide +kernel
theorem dX9_thingAt_9 : decode cX9_thingAt 9 = .ok (.if_icmp .ge 12, 3) := by decide +kernel
theorem dX9_thingAt_12 : decode cX9_thingAt 12 = .ok (.iload_n 1, 1) := by decide +kernel
theorem dX9_thingAt_13 : decode cX9_thingAt 13 = .ok (.aload_n 0, 1) := by decide +kernel
theorem dX9_thingAt_14 : decode cX9_thingAt 14 = .ok (.getfield 11, 3) := by decide +kernel
theorem dX9_thingAt_17 : decode cX9_thingAt 17 = .ok (.arraylength, 1) := by decide +kernel
theorem dX9_thingAt_18 : decode cX9_thingAt 18 = .ok (.if_icmp .lt 7, 3) := by decide +kernel
theorem dX9_thingAt_21 : decode cX9_thingAt 21 = .ok (.aconst_null, 1) := by decide +kernel
theorem dX9_thingAt_22 : decode cX9_thingAt 22 = .ok (.goto 9, 3) := by decide +kernel
theorem dX9_thingAt_25 : decode cX9_thingAt 25 = .ok (.aload_n 0, 1) := by decide +kernel
theorem dX9_thingAt_26 : decode cX9_thingAt 26 = .ok (.getfield 11, 3) := by decide +kernel
theorem dX9_thingAt_29 : decode cX9_thingAt 29 = .ok (.iload_n 1, 1) := by decide +kernel
theorem dX9_thingAt_30 : decode cX9_thingAt 30 = .ok (.aaload, 1) := by decide +kernel
theorem dX9_thingAt_31 : decode cX9_thingAt 31 = .ok (.areturn, 1) := by decide +kernel
theorem dX9_scopeAt_0 : decode cX9_scopeAt 0 = .ok (.iload_n 1, 1) := by decide +kernel
theorem dX9_scopeAt_1 : decode cX9_scopeAt 1 = .ok (.ifCond .lt 20, 3) := by decide +kernel
theorem dX9_scopeAt_4 : decode cX9_scopeAt 4 = .ok (.iload_n 1, 1) := by decide +kernel
theorem dX9_scopeAt_5 : decode cX9_scopeAt 5 = .ok (.aload_n 0, 1) := by decide +kernel
theorem dX9_scopeAt_6 : decode cX9_scopeAt 6 = .ok (.getfield 57, 3) := by decide +kernel
theorem dX9_scopeAt_9 : decode cX9_scopeAt 9 = .ok (.if_icmp .ge 12, 3) := by decide +kernel
theorem dX9_scopeAt_12 : decode cX9_scopeAt 12 = .ok (.iload_n 1, 1) := by decide +kernel
theorem dX9_scopeAt_13 : decode cX9_scopeAt 13 = .ok (.aload_n 0, 1) := by decide +kernel
theorem dX9_scopeAt_14 : decode cX9_scopeAt 14 = .ok (.getfield 19, 3) := by decide +kernel
theorem dX9_scopeAt_17 : decode cX9_scopeAt 17 = .ok (.arraylength, 1) := by decide +kernel
theorem dX9_scopeAt_18 : decode cX9_scopeAt 18 = .ok (.if_icmp .lt 7, 3) := by decide +kernel
theorem dX9_scopeAt_21 : decode cX9_scopeAt 21 = .ok (.aconst_null, 1) := by decide +kernel
theorem dX9_scopeAt_22 : decode cX9_scopeAt 22 = .ok (.goto 9, 3) := by decide +kernel
theorem dX9_scopeAt_25 : decode cX9_scopeAt 25 = .ok (.aload_n 0, 1) := by decide +kernel
theorem dX9_scopeAt_26 : decode cX9_scopeAt 26 = .ok (.getfield 19, 3) := by decide +kernel
theorem dX9_scopeAt_29 : decode cX9_scopeAt 29 = .ok (.iload_n 1, 1) := by decide +kernel
theorem dX9_scopeAt_30 : decode cX9_scopeAt 30 = .ok (.aaload, 1) := by decide +kernel
theorem dX9_scopeAt_31 : decode cX9_scopeAt 31 = .ok (.areturn, 1) := by decide +kernel
theorem dX9_taskAt_0 : decode cX9_taskAt 0 = .ok (.iload_n 1, 1) := by decide +kernel
theorem dX9_taskAt_1 : decode cX9_taskAt 1 = .ok (.ifCond .lt 20, 3) := by decide +kernel
theorem dX9_taskAt_4 : decode cX9_taskAt 4 = .ok (.iload_n 1, 1) := by decide +kernel
theorem dX9_taskAt_5 : decode cX9_taskAt 5 = .ok (.aload_n 0, 1) := by decide +kernel
theorem dX9_taskAt_6 : decode cX9_taskAt 6 = .ok (.getfield 81, 3) := by decide +kernel
theorem dX9_taskAt_9 : decode cX9_taskAt 9 = .ok (.if_icmp .ge 12, 3) := by decide +kernel
theorem dX9_taskAt_12 : decode cX9_taskAt 12 = .ok (.iload_n 1, 1) := by decide +kernel
theorem dX9_taskAt_13 : decode cX9_taskAt 13 = .ok (.aload_n 0, 1) := by decide +kernel
theorem dX9_taskAt_14 : decode cX9_taskAt 14 = .ok (.getfield 25, 3) := by decide +kernel
theorem dX9_taskAt_17 : decode cX9_taskAt 17 = .ok (.arraylength, 1) := by decide +kernel
theorem dX9_taskAt_18 : decode cX9_taskAt 18 = .ok (.if_icmp .lt 7, 3) := by decide +kernel
theorem dX9_taskAt_21 : decode cX9_taskAt 21 = .ok (.aconst_null, 1) := by decide +kernel
theorem dX9_taskAt_22 : decode cX9_taskAt 22 = .ok (.goto 9, 3) := by decide +kernel
theorem dX9_taskAt_25 : decode cX9_taskAt 25 = .ok (.aload_n 0, 1) := by decide +kernel
theorem dX9_taskAt_26 : decode cX9_taskAt 26 = .ok (.getfield 25, 3) := by decide +kernel
theorem dX9_taskAt_29 : decode cX9_taskAt 29 = .ok (.iload_n 1, 1) := by decide +kernel
theorem dX9_taskAt_30 : decode cX9_taskAt 30 = .ok (.aaload, 1) := by decide +kernel
theorem dX9_taskAt_31 : decode cX9_taskAt 31 = .ok (.areturn, 1) := by decide +kernel
theorem dX9_thingsAreFull_0 : decode cX9_thingsAreFull 0 = .ok (.aload_n 0, 1) := by decide +kernel
theorem dX9_thingsAreFull_1 : decode cX9_thingsAreFull 1 = .ok (.getfield 71, 3) := by decide +kernel
theorem dX9_thingsAreFull_4 : decode cX9_thingsAreFull 4 = .ok (.aload_n 0, 1) := by decide +kernel
theorem dX9_thingsAreFull_5 : decode cX9_thingsAreFull 5 = .ok (.getfield 11, 3) := by decide +kernel
theorem dX9_thingsAreFull_8 : decode cX9_thingsAreFull 8 = .ok (.arraylength, 1) := by decide +kernel
theorem dX9_thingsAreFull_9 : decode cX9_thingsAreFull 9 = .ok (.if_icmp .lt 7, 3) := by decide +kernel
theorem dX9_thingsAreFull_12 : decode cX9_thingsAreFull 12 = .ok (.iconst 1, 1) := by decide +kernel
theorem dX9_thingsAreFull_13 : decode cX9_thingsAreFull 13 = .ok (.goto 4, 3) := by decide +kernel
theorem dX9_thingsAreFull_16 : decode cX9_thingsAreFull 16 = .ok (.iconst 0, 1) := by decide +kernel
theorem dX9_thingsAreFull_17 : decode cX9_thingsAreFull 17 = .ok (.ireturn, 1) := by decide +kernel
theorem dX9_scopesAreFull_0 : decode cX9_scopesAreFull 0 = .ok (.aload_n 0, 1) := by decide +kernel
theorem dX9_scopesAreFull_1 : decode cX9_scopesAreFull 1 = .ok (.getfield 57, 3) := by decide +kernel
theorem dX9_scopesAreFull_4 : decode cX9_scopesAreFull 4 = .ok (.aload_n 0, 1) := by decide +kernel
theorem dX9_scopesAreFull_5 : decode cX9_scopesAreFull 5 = .ok (.getfield 19, 3) := by decide +kernel
theorem dX9_scopesAreFull_8 : decode cX9_scopesAreFull 8 = .ok (.arraylength, 1) := by decide +kernel
theorem dX9_scopesAreFull_9 : decode cX9_scopesAreFull 9 = .ok (.if_icmp .lt 7, 3) := by decide +kernel
theorem dX9_scopesAreFull_12 : decode cX9_scopesAreFull 12 = .ok (.iconst 1, 1) := by decide +kernel
theorem dX9_scopesAreFull_13 : decode cX9_scopesAreFull 13 = .ok (.goto 4, 3) := by decide +kernel
theorem dX9_scopesAreFull_16 : decode cX9_scopesAreFull 16 = .ok (.iconst 0, 1) := by decide +kernel
theorem dX9_scopesAreFull_17 : decode cX9_scopesAreFull 17 = .ok (.ireturn, 1) := by decide +kernel
theorem dX9_tasksAreFull_0 : decode cX9_tasksAreFull 0 = .ok (.aload_n 0, 1) := by decide +kernel
theorem dX9_tasksAreFull_1 : decode cX9_tasksAreFull 1 = .ok (.getfield 81, 3) := by decide +kernel
theorem dX9_tasksAreFull_4 : decode cX9_tasksAreFull 4 = .ok (.aload_n 0, 1) := by decide +kernel
theorem dX9_tasksAreFull_5 : decode cX9_tasksAreFull 5 = .ok (.getfield 25, 3) := by decide +kernel
theorem dX9_tasksAreFull_8 : decode cX9_tasksAreFull 8 = .ok (.arraylength, 1) := by decide +kernel
theorem dX9_tasksAreFull_9 : decode cX9_tasksAreFull 9 = .ok (.if_icmp .lt 7, 3) := by decide +kernel
theorem dX9_tasksAreFull_12 : decode cX9_tasksAreFull 12 = .ok (.iconst 1, 1) := by decide +kernel
theorem dX9_tasksAreFull_13 : decode cX9_tasksAreFull 13 = .ok (.goto 4, 3) := by decide +kernel
theorem dX9_tasksAreFull_16 : decode cX9_tasksAreFull 16 = .ok (.iconst 0, 1) := by decide +kernel
theorem dX9_tasksAreFull_17 : decode cX9_tasksAreFull 17 = .ok (.ireturn, 1) := by decide +kernel
theorem dX9_addThing_0 : decode cX9_addThing 0 = .ok (.aload_n 0, 1) := by decide +kernel
theorem dX9_addThing_1 : decode cX9_addThing 1 = .ok (.getfield 71, 3) := by decide +kernel
theorem dX9_addThing_4 : decode cX9_addThing 4 = .ok (.istore_n 3, 1) := by decide +kernel
theorem dX9_addThing_5 : decode cX9_addThing 5 = .ok (.aload_n 0, 1) := by decide +kernel
theorem dX9_addThing_6 : decode cX9_addThing 6 = .ok (.dup, 1) := by decide +kernel
theorem dX9_addThing_7 : decode cX9_addThing 7 = .ok (.getfield 71, 3) := by decide +kernel
theorem dX9_addThing_10 : decode cX9_addThing 10 = .ok (.iconst 1, 1) := by decide +kernel
theorem dX9_addThing_11 : decode cX9_addThing 11 = .ok (.iadd, 1) := by decide +kernel
theorem dX9_addThing_12 : decode cX9_addThing 12 = .ok (.putfield 71, 3) := by decide +kernel
theorem dX9_addThing_15 : decode cX9_addThing 15 = .ok (.aload_n 0, 1) := by decide +kernel
theorem dX9_addThing_16 : decode cX9_addThing 16 = .ok (.iload_n 3, 1) := by decide +kernel
theorem dX9_addThing_17 : decode cX9_addThing 17 = .ok (.invokevirtual 96, 3) := by decide +kernel
theorem dX9_addThing_20 : decode cX9_addThing 20 = .ok (.astore 4, 2) := by decide +kernel
theorem dX9_addThing_22 : decode cX9_addThing 22 = .ok (.aload 4, 2) := by decide +kernel
theorem dX9_addThing_24 : decode cX9_addThing 24 = .ok (.ifnonnull 10, 3) := by decide +kernel
theorem dX9_addThing_34 : decode cX9_addThing 34 = .ok (.aload 4, 2) := by decide +kernel
theorem dX9_addThing_36 : decode cX9_addThing 36 = .ok (.aload_n 1, 1) := by decide +kernel
theorem dX9_addThing_37 : decode cX9_addThing 37 = .ok (.getfield 100, 3) := by decide +kernel
theorem dX9_addThing_40 : decode cX9_addThing 40 = .ok (.putfield 106, 3) := by decide +kernel
theorem dX9_addThing_43 : decode cX9_addThing 43 = .ok (.aload 4, 2) := by decide +kernel
theorem dX9_addThing_45 : decode cX9_addThing 45 = .ok (.aload_n 1, 1) := by decide +kernel
theorem dX9_addThing_46 : decode cX9_addThing 46 = .ok (.getfield 107, 3) := by decide +kernel
theorem dX9_addThing_49 : decode cX9_addThing 49 = .ok (.putfield 111, 3) := by decide +kernel
theorem dX9_addThing_52 : decode cX9_addThing 52 = .ok (.aload 4, 2) := by decide +kernel
theorem dX9_addThing_54 : decode cX9_addThing 54 = .ok (.iconst 0, 1) := by decide +kernel
theorem dX9_addThing_55 : decode cX9_addThing 55 = .ok (.putfield 114, 3) := by decide +kernel
theorem dX9_addThing_58 : decode cX9_addThing 58 = .ok (.aload 4, 2) := by decide +kernel
theorem dX9_addThing_60 : decode cX9_addThing 60 = .ok (.iload_n 2, 1) := by decide +kernel
theorem dX9_addThing_61 : decode cX9_addThing 61 = .ok (.putfield 117, 3) := by decide +kernel
theorem dX9_addThing_64 : decode cX9_addThing 64 = .ok (.aload 4, 2) := by decide +kernel
theorem dX9_addThing_66 : decode cX9_addThing 66 = .ok (.bipush (-5), 2) := by decide +kernel
theorem dX9_addThing_68 : decode cX9_addThing 68 = .ok (.putfield 120, 3) := by decide +kernel
theorem dX9_addThing_71 : decode cX9_addThing 71 = .ok (.aload_n 0, 1) := by decide +kernel
theorem dX9_addThing_72 : decode cX9_addThing 72 = .ok (.getfield 41, 3) := by decide +kernel
theorem dX9_addThing_75 : decode cX9_addThing 75 = .ok (.iload_n 3, 1) := by decide +kernel
theorem dX9_addThing_76 : decode cX9_addThing 76 = .ok (.invokevirtual 123, 3) := by decide +kernel
theorem dX9_addThing_79 : decode cX9_addThing 79 = .ok (.pop, 1) := by decide +kernel
theorem dX9_addThing_80 : decode cX9_addThing 80 = .ok (.iload_n 3, 1) := by decide +kernel
theorem dX9_addThing_81 : decode cX9_addThing 81 = .ok (.ireturn, 1) := by decide +kernel
theorem dX9_addScope_0 : decode cX9_addScope 0 = .ok (.aload_n 0, 1) := by decide +kernel
theorem dX9_addScope_1 : decode cX9_addScope 1 = .ok (.getfield 57, 3) := by decide +kernel
theorem dX9_addScope_4 : decode cX9_addScope 4 = .ok (.istore_n 3, 1) := by decide +kernel
theorem dX9_addScope_5 : decode cX9_addScope 5 = .ok (.aload_n 0, 1) := by decide +kernel
theorem dX9_addScope_6 : decode cX9_addScope 6 = .ok (.dup, 1) := by decide +kernel
theorem dX9_addScope_7 : decode cX9_addScope 7 = .ok (.getfield 57, 3) := by decide +kernel
theorem dX9_addScope_10 : decode cX9_addScope 10 = .ok (.iconst 1, 1) := by decide +kernel
theorem dX9_addScope_11 : decode cX9_addScope 11 = .ok (.iadd, 1) := by decide +kernel
theorem dX9_addScope_12 : decode cX9_addScope 12 = .ok (.putfield 57, 3) := by decide +kernel
theorem dX9_addScope_15 : decode cX9_addScope 15 = .ok (.aload_n 0, 1) := by decide +kernel
theorem dX9_addScope_16 : decode cX9_addScope 16 = .ok (.iload_n 3, 1) := by decide +kernel
theorem dX9_addScope_17 : decode cX9_addScope 17 = .ok (.invokevirtual 61, 3) := by decide +kernel
theorem dX9_addScope_20 : decode cX9_addScope 20 = .ok (.astore 4, 2) := by decide +kernel
theorem dX9_addScope_22 : decode cX9_addScope 22 = .ok (.aload 4, 2) := by decide +kernel
theorem dX9_addScope_24 : decode cX9_addScope 24 = .ok (.ifnonnull 10, 3) := by decide +kernel
theorem dX9_addScope_34 : decode cX9_addScope 34 = .ok (.aload 4, 2) := by decide +kernel
theorem dX9_addScope_36 : decode cX9_addScope 36 = .ok (.iconst 0, 1) := by decide +kernel
theorem dX9_addScope_37 : decode cX9_addScope 37 = .ok (.putfield 127, 3) := by decide +kernel
theorem dX9_addScope_40 : decode cX9_addScope 40 = .ok (.aload 4, 2) := by decide +kernel
theorem dX9_addScope_42 : decode cX9_addScope 42 = .ok (.iload_n 1, 1) := by decide +kernel
theorem dX9_addScope_43 : decode cX9_addScope 43 = .ok (.putfield 65, 3) := by decide +kernel
theorem dX9_addScope_46 : decode cX9_addScope 46 = .ok (.aload 4, 2) := by decide +kernel
theorem dX9_addScope_48 : decode cX9_addScope 48 = .ok (.iload_n 2, 1) := by decide +kernel
theorem dX9_addScope_49 : decode cX9_addScope 49 = .ok (.putfield 68, 3) := by decide +kernel
theorem dX9_addScope_52 : decode cX9_addScope 52 = .ok (.aload_n 0, 1) := by decide +kernel
theorem dX9_addScope_53 : decode cX9_addScope 53 = .ok (.getfield 41, 3) := by decide +kernel
theorem dX9_addScope_56 : decode cX9_addScope 56 = .ok (.bipush 100, 2) := by decide +kernel
theorem dX9_addScope_58 : decode cX9_addScope 58 = .ok (.iload_n 3, 1) := by decide +kernel
theorem dX9_addScope_59 : decode cX9_addScope 59 = .ok (.iadd, 1) := by decide +kernel
theorem dX9_addScope_60 : decode cX9_addScope 60 = .ok (.invokevirtual 123, 3) := by decide +kernel
theorem dX9_addScope_63 : decode cX9_addScope 63 = .ok (.pop, 1) := by decide +kernel
theorem dX9_addScope_64 : decode cX9_addScope 64 = .ok (.iload_n 3, 1) := by decide +kernel
theorem dX9_addScope_65 : decode cX9_addScope 65 = .ok (.ireturn, 1) := by decide +kernel
theorem dX9_addTask_0 : decode cX9_addTask 0 = .ok (.aload_n 0, 1) := by decide +kernel
theorem dX9_addTask_1 : decode cX9_addTask 1 = .ok (.getfield 81, 3) := by decide +kernel
theorem dX9_addTask_4 : decode cX9_addTask 4 = .ok (.istore 4, 2) := by decide +kernel
theorem dX9_addTask_6 : decode cX9_addTask 6 = .ok (.aload_n 0, 1) := by decide +kernel
theorem dX9_addTask_7 : decode cX9_addTask 7 = .ok (.dup, 1) := by decide +kernel
theorem dX9_addTask_8 : decode cX9_addTask 8 = .ok (.getfield 81, 3) := by decide +kernel
theorem dX9_addTask_11 : decode cX9_addTask 11 = .ok (.iconst 1, 1) := by decide +kernel
theorem dX9_addTask_12 : decode cX9_addTask 12 = .ok (.iadd, 1) := by decide +kernel
theorem dX9_addTask_13 : decode cX9_addTask 13 = .ok (.putfield 81, 3) := by decide +kernel
theorem dX9_addTask_16 : decode cX9_addTask 16 = .ok (.aload_n 0, 1) := by decide +kernel
theorem dX9_addTask_17 : decode cX9_addTask 17 = .ok (.iload 4, 2) := by decide +kernel
theorem dX9_addTask_19 : decode cX9_addTask 19 = .ok (.invokevirtual 128, 3) := by decide +kernel
theorem dX9_addTask_22 : decode cX9_addTask 22 = .ok (.astore 5, 2) := by decide +kernel
theorem dX9_addTask_24 : decode cX9_addTask 24 = .ok (.aload 5, 2) := by decide +kernel
theorem dX9_addTask_26 : decode cX9_addTask 26 = .ok (.ifnonnull 11, 3) := by decide +kernel
theorem dX9_addTask_37 : decode cX9_addTask 37 = .ok (.aload 5, 2) := by decide +kernel
theorem dX9_addTask_39 : decode cX9_addTask 39 = .ok (.aload_n 1, 1) := by decide +kernel
theorem dX9_addTask_40 : decode cX9_addTask 40 = .ok (.aload_n 0, 1) := by decide +kernel
theorem dX9_addTask_41 : decode cX9_addTask 41 = .ok (.iload_n 2, 1) := by decide +kernel
theorem dX9_addTask_42 : decode cX9_addTask 42 = .ok (.iload 4, 2) := by decide +kernel
theorem dX9_addTask_44 : decode cX9_addTask 44 = .ok (.invokevirtual 132, 3) := by decide +kernel
theorem dX9_addTask_47 : decode cX9_addTask 47 = .ok (.iload_n 3, 1) := by decide +kernel
theorem dX9_addTask_48 : decode cX9_addTask 48 = .ok (.invokevirtual 136, 3) := by decide +kernel
theorem dX9_addTask_51 : decode cX9_addTask 51 = .ok (.iload 4, 2) := by decide +kernel
theorem dX9_addTask_53 : decode cX9_addTask 53 = .ok (.ireturn, 1) := by decide +kernel
theorem dX9_moveThing_0 : decode cX9_moveThing 0 = .ok (.aload_n 0, 1) := by decide +kernel
theorem dX9_moveThing_1 : decode cX9_moveThing 1 = .ok (.iload_n 1, 1) := by decide +kernel
theorem dX9_moveThing_2 : decode cX9_moveThing 2 = .ok (.invokevirtual 96, 3) := by decide +kernel
theorem dX9_moveThing_5 : decode cX9_moveThing 5 = .ok (.astore_n 3, 1) := by decide +kernel
theorem dX9_moveThing_6 : decode cX9_moveThing 6 = .ok (.aload_n 3, 1) := by decide +kernel
theorem dX9_moveThing_7 : decode cX9_moveThing 7 = .ok (.ifnull 25, 3) := by decide +kernel
theorem dX9_moveThing_10 : decode cX9_moveThing 10 = .ok (.aload_n 3, 1) := by decide +kernel
theorem dX9_moveThing_11 : decode cX9_moveThing 11 = .ok (.iload_n 2, 1) := by decide +kernel
theorem dX9_moveThing_12 : decode cX9_moveThing 12 = .ok (.putfield 117, 3) := by decide +kernel
theorem dX9_moveThing_15 : decode cX9_moveThing 15 = .ok (.aload_n 0, 1) := by decide +kernel
theorem dX9_moveThing_16 : decode cX9_moveThing 16 = .ok (.getfield 41, 3) := by decide +kernel
theorem dX9_moveThing_19 : decode cX9_moveThing 19 = .ok (.iload_n 1, 1) := by decide +kernel
theorem dX9_moveThing_20 : decode cX9_moveThing 20 = .ok (.invokevirtual 140, 3) := by decide +kernel
theorem dX9_moveThing_23 : decode cX9_moveThing 23 = .ok (.aload_n 0, 1) := by decide +kernel
theorem dX9_moveThing_24 : decode cX9_moveThing 24 = .ok (.getfield 41, 3) := by decide +kernel
theorem dX9_moveThing_27 : decode cX9_moveThing 27 = .ok (.iload_n 1, 1) := by decide +kernel
theorem dX9_moveThing_28 : decode cX9_moveThing 28 = .ok (.invokevirtual 123, 3) := by decide +kernel
theorem dX9_moveThing_31 : decode cX9_moveThing 31 = .ok (.pop, 1) := by decide +kernel
theorem dX9_moveThing_32 : decode cX9_moveThing 32 = .ok (.return_, 1) := by decide +kernel
theorem dX9_isOpen_0 : decode cX9_isOpen 0 = .ok (.aload_n 0, 1) := by decide +kernel
theorem dX9_isOpen_1 : decode cX9_isOpen 1 = .ok (.iload_n 1, 1) := by decide +kernel
theorem dX9_isOpen_2 : decode cX9_isOpen 2 = .ok (.invokevirtual 61, 3) := by decide +kernel
theorem dX9_isOpen_5 : decode cX9_isOpen 5 = .ok (.astore_n 2, 1) := by decide +kernel
theorem dX9_isOpen_6 : decode cX9_isOpen 6 = .ok (.aload_n 2, 1) := by decide +kernel
theorem dX9_isOpen_7 : decode cX9_isOpen 7 = .ok (.ifnull 14, 3) := by decide +kernel
theorem dX9_isOpen_10 : decode cX9_isOpen 10 = .ok (.aload_n 2, 1) := by decide +kernel
theorem dX9_isOpen_11 : decode cX9_isOpen 11 = .ok (.getfield 127, 3) := by decide +kernel
theorem dX9_isOpen_14 : decode cX9_isOpen 14 = .ok (.ifCond .ne 7, 3) := by decide +kernel
theorem dX9_isOpen_17 : decode cX9_isOpen 17 = .ok (.iconst 1, 1) := by decide +kernel
theorem dX9_isOpen_18 : decode cX9_isOpen 18 = .ok (.goto 4, 3) := by decide +kernel
theorem dX9_isOpen_21 : decode cX9_isOpen 21 = .ok (.iconst 0, 1) := by decide +kernel
theorem dX9_isOpen_22 : decode cX9_isOpen 22 = .ok (.ireturn, 1) := by decide +kernel
theorem dX9_isHeld_0 : decode cX9_isHeld 0 = .ok (.aload_n 0, 1) := by decide +kernel
theorem dX9_isHeld_1 : decode cX9_isHeld 1 = .ok (.iload_n 1, 1) := by decide +kernel
theorem dX9_isHeld_2 : decode cX9_isHeld 2 = .ok (.invokevirtual 96, 3) := by decide +kernel
theorem dX9_isHeld_5 : decode cX9_isHeld 5 = .ok (.astore_n 2, 1) := by decide +kernel
theorem dX9_isHeld_6 : decode cX9_isHeld 6 = .ok (.aload_n 2, 1) := by decide +kernel
theorem dX9_isHeld_7 : decode cX9_isHeld 7 = .ok (.ifnull 14, 3) := by decide +kernel
theorem dX9_isHeld_10 : decode cX9_isHeld 10 = .ok (.aload_n 2, 1) := by decide +kernel
theorem dX9_isHeld_11 : decode cX9_isHeld 11 = .ok (.getfield 114, 3) := by decide +kernel
theorem dX9_isHeld_14 : decode cX9_isHeld 14 = .ok (.ifCond .ne 7, 3) := by decide +kernel
theorem dX9_isHeld_17 : decode cX9_isHeld 17 = .ok (.iconst 1, 1) := by decide +kernel
theorem dX9_isHeld_18 : decode cX9_isHeld 18 = .ok (.goto 4, 3) := by decide +kernel
theorem dX9_isHeld_21 : decode cX9_isHeld 21 = .ok (.iconst 0, 1) := by decide +kernel
theorem dX9_isHeld_22 : decode cX9_isHeld 22 = .ok (.ireturn, 1) := by decide +kernel
theorem dX9_isReady_0 : decode cX9_isReady 0 = .ok (.aload_n 0, 1) := by decide +kernel
theorem dX9_isReady_1 : decode cX9_isReady 1 = .ok (.iload_n 1, 1) := by decide +kernel
theorem dX9_isReady_2 : decode cX9_isReady 2 = .ok (.invokevirtual 128, 3) := by decide +kernel
theorem dX9_isReady_5 : decode cX9_isReady 5 = .ok (.astore_n 2, 1) := by decide +kernel
theorem dX9_isReady_6 : decode cX9_isReady 6 = .ok (.aload_n 2, 1) := by decide +kernel
theorem dX9_isReady_7 : decode cX9_isReady 7 = .ok (.ifnull 14, 3) := by decide +kernel
theorem dX9_isReady_10 : decode cX9_isReady 10 = .ok (.aload_n 2, 1) := by decide +kernel
theorem dX9_isReady_11 : decode cX9_isReady 11 = .ok (.getfield 143, 3) := by decide +kernel
theorem dX9_isReady_14 : decode cX9_isReady 14 = .ok (.ifCond .ne 7, 3) := by decide +kernel
theorem dX9_isReady_17 : decode cX9_isReady 17 = .ok (.iconst 1, 1) := by decide +kernel
theorem dX9_isReady_18 : decode cX9_isReady 18 = .ok (.goto 4, 3) := by decide +kernel
theorem dX9_isReady_21 : decode cX9_isReady 21 = .ok (.iconst 0, 1) := by decide +kernel
theorem dX9_isReady_22 : decode cX9_isReady 22 = .ok (.ireturn, 1) := by decide +kernel
theorem dX9_ownerOf_0 : decode cX9_ownerOf 0 = .ok (.iload_n 1, 1) := by decide +kernel
theorem dX9_ownerOf_1 : decode cX9_ownerOf 1 = .ok (.bipush 100, 2) := by decide +kernel
theorem dX9_ownerOf_3 : decode cX9_ownerOf 3 = .ok (.if_icmp .lt 25, 3) := by decide +kernel
theorem dX9_ownerOf_6 : decode cX9_ownerOf 6 = .ok (.aload_n 0, 1) := by decide +kernel
theorem dX9_ownerOf_7 : decode cX9_ownerOf 7 = .ok (.iload_n 1, 1) := by decide +kernel
theorem dX9_ownerOf_8 : decode cX9_ownerOf 8 = .ok (.bipush 100, 2) := by decide +kernel
theorem dX9_ownerOf_10 : decode cX9_ownerOf 10 = .ok (.isub, 1) := by decide +kernel
theorem dX9_ownerOf_11 : decode cX9_ownerOf 11 = .ok (.invokevirtual 61, 3) := by decide +kernel
theorem dX9_ownerOf_14 : decode cX9_ownerOf 14 = .ok (.astore_n 2, 1) := by decide +kernel
theorem dX9_ownerOf_15 : decode cX9_ownerOf 15 = .ok (.aload_n 2, 1) := by decide +kernel
theorem dX9_ownerOf_16 : decode cX9_ownerOf 16 = .ok (.ifnonnull 7, 3) := by decide +kernel
theorem dX9_ownerOf_19 : decode cX9_ownerOf 19 = .ok (.iconst (-1), 1) := by decide +kernel
theorem dX9_ownerOf_20 : decode cX9_ownerOf 20 = .ok (.goto 7, 3) := by decide +kernel
theorem dX9_ownerOf_23 : decode cX9_ownerOf 23 = .ok (.aload_n 2, 1) := by decide +kernel
theorem dX9_ownerOf_24 : decode cX9_ownerOf 24 = .ok (.getfield 65, 3) := by decide +kernel
theorem dX9_ownerOf_27 : decode cX9_ownerOf 27 = .ok (.ireturn, 1) := by decide +kernel
theorem dX9_ownerOf_28 : decode cX9_ownerOf 28 = .ok (.aload_n 0, 1) := by decide +kernel
theorem dX9_ownerOf_29 : decode cX9_ownerOf 29 = .ok (.iload_n 1, 1) := by decide +kernel
theorem dX9_ownerOf_30 : decode cX9_ownerOf 30 = .ok (.invokevirtual 96, 3) := by decide +kernel
theorem dX9_ownerOf_33 : decode cX9_ownerOf 33 = .ok (.astore_n 2, 1) := by decide +kernel
theorem dX9_ownerOf_34 : decode cX9_ownerOf 34 = .ok (.aload_n 2, 1) := by decide +kernel
theorem dX9_ownerOf_35 : decode cX9_ownerOf 35 = .ok (.ifnonnull 7, 3) := by decide +kernel
theorem dX9_ownerOf_38 : decode cX9_ownerOf 38 = .ok (.iconst (-1), 1) := by decide +kernel
theorem dX9_ownerOf_39 : decode cX9_ownerOf 39 = .ok (.goto 7, 3) := by decide +kernel
theorem dX9_ownerOf_42 : decode cX9_ownerOf 42 = .ok (.aload_n 2, 1) := by decide +kernel
theorem dX9_ownerOf_43 : decode cX9_ownerOf 43 = .ok (.getfield 117, 3) := by decide +kernel
theorem dX9_ownerOf_46 : decode cX9_ownerOf 46 = .ok (.ireturn, 1) := by decide +kernel
theorem dX9_entriesOf_0 : decode cX9_entriesOf 0 = .ok (.iconst 0, 1) := by decide +kernel
theorem dX9_entriesOf_1 : decode cX9_entriesOf 1 = .ok (.istore_n 2, 1) := by decide +kernel
theorem dX9_entriesOf_2 : decode cX9_entriesOf 2 = .ok (.iconst 0, 1) := by decide +kernel
theorem dX9_entriesOf_3 : decode cX9_entriesOf 3 = .ok (.istore_n 3, 1) := by decide +kernel
theorem dX9_entriesOf_4 : decode cX9_entriesOf 4 = .ok (.iload_n 3, 1) := by decide +kernel
theorem dX9_entriesOf_5 : decode cX9_entriesOf 5 = .ok (.aload_n 0, 1) := by decide +kernel
theorem dX9_entriesOf_6 : decode cX9_entriesOf 6 = .ok (.getfield 41, 3) := by decide +kernel
theorem dX9_entriesOf_9 : decode cX9_entriesOf 9 = .ok (.getfield 144, 3) := by decide +kernel
theorem dX9_entriesOf_12 : decode cX9_entriesOf 12 = .ok (.if_icmp .ge 28, 3) := by decide +kernel
theorem dX9_entriesOf_15 : decode cX9_entriesOf 15 = .ok (.aload_n 0, 1) := by decide +kernel
theorem dX9_entriesOf_16 : decode cX9_entriesOf 16 = .ok (.aload_n 0, 1) := by decide +kernel
theorem dX9_entriesOf_17 : decode cX9_entriesOf 17 = .ok (.getfield 41, 3) := by decide +kernel
theorem dX9_entriesOf_20 : decode cX9_entriesOf 20 = .ok (.iload_n 3, 1) := by decide +kernel
theorem dX9_entriesOf_21 : decode cX9_entriesOf 21 = .ok (.invokevirtual 147, 3) := by decide +kernel
theorem dX9_entriesOf_24 : decode cX9_entriesOf 24 = .ok (.invokevirtual 151, 3) := by decide +kernel
theorem dX9_entriesOf_27 : decode cX9_entriesOf 27 = .ok (.iload_n 1, 1) := by decide +kernel
theorem dX9_entriesOf_28 : decode cX9_entriesOf 28 = .ok (.if_icmp .ne 6, 3) := by decide +kernel
theorem dX9_entriesOf_31 : decode cX9_entriesOf 31 = .ok (.iinc 2 1, 3) := by decide +kernel
theorem dX9_entriesOf_34 : decode cX9_entriesOf 34 = .ok (.iinc 3 1, 3) := by decide +kernel
theorem dX9_entriesOf_37 : decode cX9_entriesOf 37 = .ok (.goto (-33), 3) := by decide +kernel
theorem dX9_entriesOf_40 : decode cX9_entriesOf 40 = .ok (.iload_n 2, 1) := by decide +kernel
theorem dX9_entriesOf_41 : decode cX9_entriesOf 41 = .ok (.ireturn, 1) := by decide +kernel
theorem dX9_entryAt_0 : decode cX9_entryAt 0 = .ok (.iconst 0, 1) := by decide +kernel
theorem dX9_entryAt_1 : decode cX9_entryAt 1 = .ok (.istore_n 3, 1) := by decide +kernel
theorem dX9_entryAt_2 : decode cX9_entryAt 2 = .ok (.iconst 0, 1) := by decide +kernel
theorem dX9_entryAt_3 : decode cX9_entryAt 3 = .ok (.istore 4, 2) := by decide +kernel
theorem dX9_entryAt_5 : decode cX9_entryAt 5 = .ok (.iload 4, 2) := by decide +kernel
theorem dX9_entryAt_7 : decode cX9_entryAt 7 = .ok (.aload_n 0, 1) := by decide +kernel
theorem dX9_entryAt_8 : decode cX9_entryAt 8 = .ok (.getfield 41, 3) := by decide +kernel
theorem dX9_entryAt_11 : decode cX9_entryAt 11 = .ok (.getfield 144, 3) := by decide +kernel
theorem dX9_entryAt_14 : decode cX9_entryAt 14 = .ok (.if_icmp .ge 44, 3) := by decide +kernel
theorem dX9_entryAt_17 : decode cX9_entryAt 17 = .ok (.aload_n 0, 1) := by decide +kernel
theorem dX9_entryAt_18 : decode cX9_entryAt 18 = .ok (.aload_n 0, 1) := by decide +kernel
theorem dX9_entryAt_19 : decode cX9_entryAt 19 = .ok (.getfield 41, 3) := by decide +kernel
theorem dX9_entryAt_22 : decode cX9_entryAt 22 = .ok (.iload 4, 2) := by decide +kernel
theorem dX9_entryAt_24 : decode cX9_entryAt 24 = .ok (.invokevirtual 147, 3) := by decide +kernel
theorem dX9_entryAt_27 : decode cX9_entryAt 27 = .ok (.invokevirtual 151, 3) := by decide +kernel
theorem dX9_entryAt_30 : decode cX9_entryAt 30 = .ok (.iload_n 1, 1) := by decide +kernel
theorem dX9_entryAt_31 : decode cX9_entryAt 31 = .ok (.if_icmp .ne 21, 3) := by decide +kernel
theorem dX9_entryAt_34 : decode cX9_entryAt 34 = .ok (.iload_n 3, 1) := by decide +kernel
theorem dX9_entryAt_35 : decode cX9_entryAt 35 = .ok (.iload_n 2, 1) := by decide +kernel
theorem dX9_entryAt_36 : decode cX9_entryAt 36 = .ok (.if_icmp .ne 13, 3) := by decide +kernel
theorem dX9_entryAt_39 : decode cX9_entryAt 39 = .ok (.aload_n 0, 1) := by decide +kernel
theorem dX9_entryAt_40 : decode cX9_entryAt 40 = .ok (.getfield 41, 3) := by decide +kernel
theorem dX9_entryAt_43 : decode cX9_entryAt 43 = .ok (.iload 4, 2) := by decide +kernel
theorem dX9_entryAt_45 : decode cX9_entryAt 45 = .ok (.invokevirtual 147, 3) := by decide +kernel
theorem dX9_entryAt_48 : decode cX9_entryAt 48 = .ok (.ireturn, 1) := by decide +kernel
theorem dX9_entryAt_49 : decode cX9_entryAt 49 = .ok (.iinc 3 1, 3) := by decide +kernel
theorem dX9_entryAt_52 : decode cX9_entryAt 52 = .ok (.iinc 4 1, 3) := by decide +kernel
theorem dX9_entryAt_55 : decode cX9_entryAt 55 = .ok (.goto (-50), 3) := by decide +kernel
theorem dX9_entryAt_58 : decode cX9_entryAt 58 = .ok (.iconst (-1), 1) := by decide +kernel
theorem dX9_entryAt_59 : decode cX9_entryAt 59 = .ok (.ireturn, 1) := by decide +kernel
theorem dX9_lastToEnd_0 : decode cX9_lastToEnd 0 = .ok (.aload_n 0, 1) := by decide +kernel
theorem dX9_lastToEnd_1 : decode cX9_lastToEnd 1 = .ok (.getfield 41, 3) := by decide +kernel
theorem dX9_lastToEnd_4 : decode cX9_lastToEnd 4 = .ok (.getfield 144, 3) := by decide +kernel
theorem dX9_lastToEnd_7 : decode cX9_lastToEnd 7 = .ok (.iconst 1, 1) := by decide +kernel
theorem dX9_lastToEnd_8 : decode cX9_lastToEnd 8 = .ok (.isub, 1) := by decide +kernel
theorem dX9_lastToEnd_9 : decode cX9_lastToEnd 9 = .ok (.istore_n 2, 1) := by decide +kernel
theorem dX9_lastToEnd_10 : decode cX9_lastToEnd 10 = .ok (.iload_n 2, 1) := by decide +kernel
theorem dX9_lastToEnd_11 : decode cX9_lastToEnd 11 = .ok (.ifCond .lt 58, 3) := by decide +kernel
theorem dX9_lastToEnd_14 : decode cX9_lastToEnd 14 = .ok (.aload_n 0, 1) := by decide +kernel
theorem dX9_lastToEnd_15 : decode cX9_lastToEnd 15 = .ok (.getfield 41, 3) := by decide +kernel
theorem dX9_lastToEnd_18 : decode cX9_lastToEnd 18 = .ok (.iload_n 2, 1) := by decide +kernel
theorem dX9_lastToEnd_19 : decode cX9_lastToEnd 19 = .ok (.invokevirtual 147, 3) := by decide +kernel
theorem dX9_lastToEnd_22 : decode cX9_lastToEnd 22 = .ok (.istore_n 3, 1) := by decide +kernel
theorem dX9_lastToEnd_23 : decode cX9_lastToEnd 23 = .ok (.iload_n 3, 1) := by decide +kernel
theorem dX9_lastToEnd_24 : decode cX9_lastToEnd 24 = .ok (.bipush 100, 2) := by decide +kernel
theorem dX9_lastToEnd_26 : decode cX9_lastToEnd 26 = .ok (.if_icmp .lt 14, 3) := by decide +kernel
theorem dX9_lastToEnd_29 : decode cX9_lastToEnd 29 = .ok (.aload_n 0, 1) := by decide +kernel
theorem dX9_lastToEnd_30 : decode cX9_lastToEnd 30 = .ok (.iload_n 3, 1) := by decide +kernel
theorem dX9_lastToEnd_31 : decode cX9_lastToEnd 31 = .ok (.bipush 100, 2) := by decide +kernel
theorem dX9_lastToEnd_33 : decode cX9_lastToEnd 33 = .ok (.isub, 1) := by decide +kernel
theorem dX9_lastToEnd_34 : decode cX9_lastToEnd 34 = .ok (.invokevirtual 154, 3) := by decide +kernel
theorem dX9_lastToEnd_37 : decode cX9_lastToEnd 37 = .ok (.goto 8, 3) := by decide +kernel
theorem dX9_lastToEnd_40 : decode cX9_lastToEnd 40 = .ok (.aload_n 0, 1) := by decide +kernel
theorem dX9_lastToEnd_41 : decode cX9_lastToEnd 41 = .ok (.iload_n 3, 1) := by decide +kernel
theorem dX9_lastToEnd_42 : decode cX9_lastToEnd 42 = .ok (.invokevirtual 157, 3) := by decide +kernel
theorem dX9_lastToEnd_45 : decode cX9_lastToEnd 45 = .ok (.istore 4, 2) := by decide +kernel
theorem dX9_lastToEnd_47 : decode cX9_lastToEnd 47 = .ok (.iload 4, 2) := by decide +kernel
theorem dX9_lastToEnd_49 : decode cX9_lastToEnd 49 = .ok (.ifCond .eq 14, 3) := by decide +kernel
theorem dX9_lastToEnd_52 : decode cX9_lastToEnd 52 = .ok (.aload_n 0, 1) := by decide +kernel
theorem dX9_lastToEnd_53 : decode cX9_lastToEnd 53 = .ok (.iload_n 3, 1) := by decide +kernel
theorem dX9_lastToEnd_54 : decode cX9_lastToEnd 54 = .ok (.invokevirtual 151, 3) := by decide +kernel
theorem dX9_lastToEnd_57 : decode cX9_lastToEnd 57 = .ok (.iload_n 1, 1) := by decide +kernel
theorem dX9_lastToEnd_58 : decode cX9_lastToEnd 58 = .ok (.if_icmp .ne 5, 3) := by decide +kernel
theorem dX9_lastToEnd_61 : decode cX9_lastToEnd 61 = .ok (.iload_n 3, 1) := by decide +kernel
theorem dX9_lastToEnd_62 : decode cX9_lastToEnd 62 = .ok (.ireturn, 1) := by decide +kernel
theorem dX9_lastToEnd_63 : decode cX9_lastToEnd 63 = .ok (.iinc 2 (-1), 3) := by decide +kernel
theorem dX9_lastToEnd_66 : decode cX9_lastToEnd 66 = .ok (.goto (-56), 3) := by decide +kernel
theorem dX9_lastToEnd_69 : decode cX9_lastToEnd 69 = .ok (.iconst (-1), 1) := by decide +kernel
theorem dX9_lastToEnd_70 : decode cX9_lastToEnd 70 = .ok (.ireturn, 1) := by decide +kernel
theorem dX9_planned_0 : decode cX9_planned 0 = .ok (.iconst 0, 1) := by decide +kernel
theorem dX9_planned_1 : decode cX9_planned 1 = .ok (.istore_n 3, 1) := by decide +kernel
theorem dX9_planned_2 : decode cX9_planned 2 = .ok (.iload_n 1, 1) := by decide +kernel
theorem dX9_planned_3 : decode cX9_planned 3 = .ok (.istore 4, 2) := by decide +kernel
theorem dX9_planned_5 : decode cX9_planned 5 = .ok (.aload_n 0, 1) := by decide +kernel
theorem dX9_planned_6 : decode cX9_planned 6 = .ok (.getfield 41, 3) := by decide +kernel
theorem dX9_planned_9 : decode cX9_planned 9 = .ok (.getfield 144, 3) := by decide +kernel
theorem dX9_planned_12 : decode cX9_planned 12 = .ok (.iconst 1, 1) := by decide +kernel
theorem dX9_planned_13 : decode cX9_planned 13 = .ok (.isub, 1) := by decide +kernel
theorem dX9_planned_14 : decode cX9_planned 14 = .ok (.istore 5, 2) := by decide +kernel
theorem dX9_planned_16 : decode cX9_planned 16 = .ok (.iconst 0, 1) := by decide +kernel
theorem dX9_planned_17 : decode cX9_planned 17 = .ok (.istore 6, 2) := by decide +kernel
theorem dX9_planned_19 : decode cX9_planned 19 = .ok (.iload 6, 2) := by decide +kernel
theorem dX9_planned_21 : decode cX9_planned 21 = .ok (.ldc 160, 2) := by decide +kernel
theorem dX9_planned_23 : decode cX9_planned 23 = .ok (.if_icmp .ge 137, 3) := by decide +kernel
theorem dX9_planned_26 : decode cX9_planned 26 = .ok (.iload 5, 2) := by decide +kernel
theorem dX9_planned_28 : decode cX9_planned 28 = .ok (.ifCond .ge 39, 3) := by decide +kernel
theorem dX9_planned_31 : decode cX9_planned 31 = .ok (.iload 4, 2) := by decide +kernel
theorem dX9_planned_33 : decode cX9_planned 33 = .ok (.iload_n 1, 1) := by decide +kernel
theorem dX9_planned_34 : decode cX9_planned 34 = .ok (.if_icmp .ne 6, 3) := by decide +kernel
theorem dX9_planned_37 : decode cX9_planned 37 = .ok (.goto 123, 3) := by decide +kernel
theorem dX9_planned_40 : decode cX9_planned 40 = .ok (.aload_n 0, 1) := by decide +kernel
theorem dX9_planned_41 : decode cX9_planned 41 = .ok (.bipush 100, 2) := by decide +kernel
theorem dX9_planned_43 : decode cX9_planned 43 = .ok (.iload 4, 2) := by decide +kernel
theorem dX9_planned_45 : decode cX9_planned 45 = .ok (.iadd, 1) := by decide +kernel
theorem dX9_planned_46 : decode cX9_planned 46 = .ok (.invokevirtual 161, 3) := by decide +kernel
theorem dX9_planned_49 : decode cX9_planned 49 = .ok (.iconst 1, 1) := by decide +kernel
theorem dX9_planned_50 : decode cX9_planned 50 = .ok (.isub, 1) := by decide +kernel
theorem dX9_planned_51 : decode cX9_planned 51 = .ok (.istore 5, 2) := by decide +kernel
theorem dX9_planned_53 : decode cX9_planned 53 = .ok (.aload_n 0, 1) := by decide +kernel
theorem dX9_planned_54 : decode cX9_planned 54 = .ok (.bipush 100, 2) := by decide +kernel
theorem dX9_planned_56 : decode cX9_planned 56 = .ok (.iload 4, 2) := by decide +kernel
theorem dX9_planned_58 : decode cX9_planned 58 = .ok (.iadd, 1) := by decide +kernel
theorem dX9_planned_59 : decode cX9_planned 59 = .ok (.invokevirtual 151, 3) := by decide +kernel
theorem dX9_planned_62 : decode cX9_planned 62 = .ok (.istore 4, 2) := by decide +kernel
theorem dX9_planned_64 : decode cX9_planned 64 = .ok (.goto 90, 3) := by decide +kernel
theorem dX9_planned_67 : decode cX9_planned 67 = .ok (.aload_n 0, 1) := by decide +kernel
theorem dX9_planned_68 : decode cX9_planned 68 = .ok (.aload_n 0, 1) := by decide +kernel
theorem dX9_planned_69 : decode cX9_planned 69 = .ok (.getfield 41, 3) := by decide +kernel
theorem dX9_planned_72 : decode cX9_planned 72 = .ok (.iload 5, 2) := by decide +kernel
theorem dX9_planned_74 : decode cX9_planned 74 = .ok (.invokevirtual 147, 3) := by decide +kernel
theorem dX9_planned_77 : decode cX9_planned 77 = .ok (.invokevirtual 151, 3) := by decide +kernel
theorem dX9_planned_80 : decode cX9_planned 80 = .ok (.iload 4, 2) := by decide +kernel
theorem dX9_planned_82 : decode cX9_planned 82 = .ok (.if_icmp .eq 9, 3) := by decide +kernel
theorem dX9_planned_85 : decode cX9_planned 85 = .ok (.iinc 5 (-1), 3) := by decide +kernel
theorem dX9_planned_88 : decode cX9_planned 88 = .ok (.goto 66, 3) := by decide +kernel
theorem dX9_planned_91 : decode cX9_planned 91 = .ok (.aload_n 0, 1) := by decide +kernel
theorem dX9_planned_92 : decode cX9_planned 92 = .ok (.getfield 41, 3) := by decide +kernel
theorem dX9_planned_95 : decode cX9_planned 95 = .ok (.iload 5, 2) := by decide +kernel
theorem dX9_planned_97 : decode cX9_planned 97 = .ok (.invokevirtual 147, 3) := by decide +kernel
theorem dX9_planned_100 : decode cX9_planned 100 = .ok (.bipush 100, 2) := by decide +kernel
theorem dX9_planned_102 : decode cX9_planned 102 = .ok (.if_icmp .lt 31, 3) := by decide +kernel
theorem dX9_planned_105 : decode cX9_planned 105 = .ok (.aload_n 0, 1) := by decide +kernel
theorem dX9_planned_106 : decode cX9_planned 106 = .ok (.getfield 41, 3) := by decide +kernel
theorem dX9_planned_109 : decode cX9_planned 109 = .ok (.iload 5, 2) := by decide +kernel
theorem dX9_planned_111 : decode cX9_planned 111 = .ok (.invokevirtual 147, 3) := by decide +kernel
theorem dX9_planned_114 : decode cX9_planned 114 = .ok (.bipush 100, 2) := by decide +kernel
theorem dX9_planned_116 : decode cX9_planned 116 = .ok (.isub, 1) := by decide +kernel
theorem dX9_planned_117 : decode cX9_planned 117 = .ok (.istore 4, 2) := by decide +kernel
theorem dX9_planned_119 : decode cX9_planned 119 = .ok (.aload_n 0, 1) := by decide +kernel
theorem dX9_planned_120 : decode cX9_planned 120 = .ok (.getfield 41, 3) := by decide +kernel
theorem dX9_planned_123 : decode cX9_planned 123 = .ok (.getfield 144, 3) := by decide +kernel
theorem dX9_planned_126 : decode cX9_planned 126 = .ok (.iconst 1, 1) := by decide +kernel
theorem dX9_planned_127 : decode cX9_planned 127 = .ok (.isub, 1) := by decide +kernel
theorem dX9_planned_128 : decode cX9_planned 128 = .ok (.istore 5, 2) := by decide +kernel
theorem dX9_planned_130 : decode cX9_planned 130 = .ok (.goto 24, 3) := by decide +kernel
theorem dX9_planned_133 : decode cX9_planned 133 = .ok (.iload_n 3, 1) := by decide +kernel
theorem dX9_planned_134 : decode cX9_planned 134 = .ok (.iload_n 2, 1) := by decide +kernel
theorem dX9_planned_135 : decode cX9_planned 135 = .ok (.if_icmp .ne 13, 3) := by decide +kernel
theorem dX9_planned_138 : decode cX9_planned 138 = .ok (.aload_n 0, 1) := by decide +kernel
theorem dX9_planned_139 : decode cX9_planned 139 = .ok (.getfield 41, 3) := by decide +kernel
theorem dX9_planned_142 : decode cX9_planned 142 = .ok (.iload 5, 2) := by decide +kernel
theorem dX9_planned_144 : decode cX9_planned 144 = .ok (.invokevirtual 147, 3) := by decide +kernel
theorem dX9_planned_147 : decode cX9_planned 147 = .ok (.ireturn, 1) := by decide +kernel
theorem dX9_planned_148 : decode cX9_planned 148 = .ok (.iinc 3 1, 3) := by decide +kernel
theorem dX9_planned_151 : decode cX9_planned 151 = .ok (.iinc 5 (-1), 3) := by decide +kernel
theorem dX9_planned_154 : decode cX9_planned 154 = .ok (.iinc 6 1, 3) := by decide +kernel
theorem dX9_planned_157 : decode cX9_planned 157 = .ok (.goto (-138), 3) := by decide +kernel
theorem dX9_planned_160 : decode cX9_planned 160 = .ok (.iload_n 2, 1) := by decide +kernel
theorem dX9_planned_161 : decode cX9_planned 161 = .ok (.iconst (-1), 1) := by decide +kernel
theorem dX9_planned_162 : decode cX9_planned 162 = .ok (.if_icmp .ne 7, 3) := by decide +kernel
theorem dX9_planned_165 : decode cX9_planned 165 = .ok (.iload_n 3, 1) := by decide +kernel
