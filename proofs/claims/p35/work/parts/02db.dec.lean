theorem dX9_planned_166 : decode cX9_planned 166 = .ok (.goto 4, 3) := by decide +kernel
theorem dX9_planned_169 : decode cX9_planned 169 = .ok (.iconst (-1), 1) := by decide +kernel
theorem dX9_planned_170 : decode cX9_planned 170 = .ok (.ireturn, 1) := by decide +kernel
theorem dX9_placeOfEntry_0 : decode cX9_placeOfEntry 0 = .ok (.iconst 0, 1) := by decide +kernel
theorem dX9_placeOfEntry_1 : decode cX9_placeOfEntry 1 = .ok (.istore_n 2, 1) := by decide +kernel
theorem dX9_placeOfEntry_2 : decode cX9_placeOfEntry 2 = .ok (.iload_n 2, 1) := by decide +kernel
theorem dX9_placeOfEntry_3 : decode cX9_placeOfEntry 3 = .ok (.aload_n 0, 1) := by decide +kernel
theorem dX9_placeOfEntry_4 : decode cX9_placeOfEntry 4 = .ok (.getfield 41, 3) := by decide +kernel
theorem dX9_placeOfEntry_7 : decode cX9_placeOfEntry 7 = .ok (.getfield 144, 3) := by decide +kernel
theorem dX9_placeOfEntry_10 : decode cX9_placeOfEntry 10 = .ok (.if_icmp .ge 23, 3) := by decide +kernel
theorem dX9_placeOfEntry_13 : decode cX9_placeOfEntry 13 = .ok (.aload_n 0, 1) := by decide +kernel
theorem dX9_placeOfEntry_14 : decode cX9_placeOfEntry 14 = .ok (.getfield 41, 3) := by decide +kernel
theorem dX9_placeOfEntry_17 : decode cX9_placeOfEntry 17 = .ok (.iload_n 2, 1) := by decide +kernel
theorem dX9_placeOfEntry_18 : decode cX9_placeOfEntry 18 = .ok (.invokevirtual 147, 3) := by decide +kernel
theorem dX9_placeOfEntry_21 : decode cX9_placeOfEntry 21 = .ok (.iload_n 1, 1) := by decide +kernel
theorem dX9_placeOfEntry_22 : decode cX9_placeOfEntry 22 = .ok (.if_icmp .ne 5, 3) := by decide +kernel
theorem dX9_placeOfEntry_25 : decode cX9_placeOfEntry 25 = .ok (.iload_n 2, 1) := by decide +kernel
theorem dX9_placeOfEntry_26 : decode cX9_placeOfEntry 26 = .ok (.ireturn, 1) := by decide +kernel
theorem dX9_placeOfEntry_27 : decode cX9_placeOfEntry 27 = .ok (.iinc 2 1, 3) := by decide +kernel
theorem dX9_placeOfEntry_30 : decode cX9_placeOfEntry 30 = .ok (.goto (-28), 3) := by decide +kernel
theorem dX9_placeOfEntry_33 : decode cX9_placeOfEntry 33 = .ok (.iconst (-1), 1) := by decide +kernel
theorem dX9_placeOfEntry_34 : decode cX9_placeOfEntry 34 = .ok (.ireturn, 1) := by decide +kernel
theorem dX9_isWithin_0 : decode cX9_isWithin 0 = .ok (.iload_n 1, 1) := by decide +kernel
theorem dX9_isWithin_1 : decode cX9_isWithin 1 = .ok (.istore_n 3, 1) := by decide +kernel
theorem dX9_isWithin_2 : decode cX9_isWithin 2 = .ok (.iconst 0, 1) := by decide +kernel
theorem dX9_isWithin_3 : decode cX9_isWithin 3 = .ok (.istore 4, 2) := by decide +kernel
theorem dX9_isWithin_5 : decode cX9_isWithin 5 = .ok (.iload 4, 2) := by decide +kernel
theorem dX9_isWithin_7 : decode cX9_isWithin 7 = .ok (.bipush 60, 2) := by decide +kernel
theorem dX9_isWithin_9 : decode cX9_isWithin 9 = .ok (.if_icmp .ge 29, 3) := by decide +kernel
theorem dX9_isWithin_12 : decode cX9_isWithin 12 = .ok (.iload_n 3, 1) := by decide +kernel
theorem dX9_isWithin_13 : decode cX9_isWithin 13 = .ok (.ifCond .lt 25, 3) := by decide +kernel
theorem dX9_isWithin_16 : decode cX9_isWithin 16 = .ok (.iload_n 3, 1) := by decide +kernel
theorem dX9_isWithin_17 : decode cX9_isWithin 17 = .ok (.iload_n 2, 1) := by decide +kernel
theorem dX9_isWithin_18 : decode cX9_isWithin 18 = .ok (.if_icmp .ne 5, 3) := by decide +kernel
theorem dX9_isWithin_21 : decode cX9_isWithin 21 = .ok (.iconst 1, 1) := by decide +kernel
theorem dX9_isWithin_22 : decode cX9_isWithin 22 = .ok (.ireturn, 1) := by decide +kernel
theorem dX9_isWithin_23 : decode cX9_isWithin 23 = .ok (.aload_n 0, 1) := by decide +kernel
theorem dX9_isWithin_24 : decode cX9_isWithin 24 = .ok (.bipush 100, 2) := by decide +kernel
theorem dX9_isWithin_26 : decode cX9_isWithin 26 = .ok (.iload_n 3, 1) := by decide +kernel
theorem dX9_isWithin_27 : decode cX9_isWithin 27 = .ok (.iadd, 1) := by decide +kernel
theorem dX9_isWithin_28 : decode cX9_isWithin 28 = .ok (.invokevirtual 151, 3) := by decide +kernel
theorem dX9_isWithin_31 : decode cX9_isWithin 31 = .ok (.istore_n 3, 1) := by decide +kernel
theorem dX9_isWithin_32 : decode cX9_isWithin 32 = .ok (.iinc 4 1, 3) := by decide +kernel
theorem dX9_isWithin_35 : decode cX9_isWithin 35 = .ok (.goto (-30), 3) := by decide +kernel
theorem dX9_isWithin_38 : decode cX9_isWithin 38 = .ok (.iconst 0, 1) := by decide +kernel
theorem dX9_isWithin_39 : decode cX9_isWithin 39 = .ok (.ireturn, 1) := by decide +kernel
theorem dX9_scopesAbove_0 : decode cX9_scopesAbove 0 = .ok (.iconst 0, 1) := by decide +kernel
theorem dX9_scopesAbove_1 : decode cX9_scopesAbove 1 = .ok (.istore_n 2, 1) := by decide +kernel
theorem dX9_scopesAbove_2 : decode cX9_scopesAbove 2 = .ok (.aload_n 0, 1) := by decide +kernel
theorem dX9_scopesAbove_3 : decode cX9_scopesAbove 3 = .ok (.bipush 100, 2) := by decide +kernel
theorem dX9_scopesAbove_5 : decode cX9_scopesAbove 5 = .ok (.iload_n 1, 1) := by decide +kernel
theorem dX9_scopesAbove_6 : decode cX9_scopesAbove 6 = .ok (.iadd, 1) := by decide +kernel
theorem dX9_scopesAbove_7 : decode cX9_scopesAbove 7 = .ok (.invokevirtual 151, 3) := by decide +kernel
theorem dX9_scopesAbove_10 : decode cX9_scopesAbove 10 = .ok (.istore_n 3, 1) := by decide +kernel
theorem dX9_scopesAbove_11 : decode cX9_scopesAbove 11 = .ok (.iload_n 3, 1) := by decide +kernel
theorem dX9_scopesAbove_12 : decode cX9_scopesAbove 12 = .ok (.ifCond .lt 24, 3) := by decide +kernel
theorem dX9_scopesAbove_15 : decode cX9_scopesAbove 15 = .ok (.iload_n 2, 1) := by decide +kernel
theorem dX9_scopesAbove_16 : decode cX9_scopesAbove 16 = .ok (.bipush 60, 2) := by decide +kernel
theorem dX9_scopesAbove_18 : decode cX9_scopesAbove 18 = .ok (.if_icmp .ge 18, 3) := by decide +kernel
theorem dX9_scopesAbove_21 : decode cX9_scopesAbove 21 = .ok (.aload_n 0, 1) := by decide +kernel
theorem dX9_scopesAbove_22 : decode cX9_scopesAbove 22 = .ok (.bipush 100, 2) := by decide +kernel
theorem dX9_scopesAbove_24 : decode cX9_scopesAbove 24 = .ok (.iload_n 3, 1) := by decide +kernel
theorem dX9_scopesAbove_25 : decode cX9_scopesAbove 25 = .ok (.iadd, 1) := by decide +kernel
theorem dX9_scopesAbove_26 : decode cX9_scopesAbove 26 = .ok (.invokevirtual 151, 3) := by decide +kernel
theorem dX9_scopesAbove_29 : decode cX9_scopesAbove 29 = .ok (.istore_n 3, 1) := by decide +kernel
theorem dX9_scopesAbove_30 : decode cX9_scopesAbove 30 = .ok (.iinc 2 1, 3) := by decide +kernel
theorem dX9_scopesAbove_33 : decode cX9_scopesAbove 33 = .ok (.goto (-22), 3) := by decide +kernel
theorem dX9_scopesAbove_36 : decode cX9_scopesAbove 36 = .ok (.iload_n 2, 1) := by decide +kernel
theorem dX9_scopesAbove_37 : decode cX9_scopesAbove 37 = .ok (.ireturn, 1) := by decide +kernel
theorem dX9_heldWithin_0 : decode cX9_heldWithin 0 = .ok (.iconst 0, 1) := by decide +kernel
theorem dX9_heldWithin_1 : decode cX9_heldWithin 1 = .ok (.istore_n 2, 1) := by decide +kernel
theorem dX9_heldWithin_2 : decode cX9_heldWithin 2 = .ok (.iconst 0, 1) := by decide +kernel
theorem dX9_heldWithin_3 : decode cX9_heldWithin 3 = .ok (.istore_n 3, 1) := by decide +kernel
theorem dX9_heldWithin_4 : decode cX9_heldWithin 4 = .ok (.iload_n 3, 1) := by decide +kernel
theorem dX9_heldWithin_5 : decode cX9_heldWithin 5 = .ok (.aload_n 0, 1) := by decide +kernel
theorem dX9_heldWithin_6 : decode cX9_heldWithin 6 = .ok (.getfield 71, 3) := by decide +kernel
theorem dX9_heldWithin_9 : decode cX9_heldWithin 9 = .ok (.if_icmp .ge 33, 3) := by decide +kernel
theorem dX9_heldWithin_12 : decode cX9_heldWithin 12 = .ok (.aload_n 0, 1) := by decide +kernel
theorem dX9_heldWithin_13 : decode cX9_heldWithin 13 = .ok (.iload_n 3, 1) := by decide +kernel
theorem dX9_heldWithin_14 : decode cX9_heldWithin 14 = .ok (.invokevirtual 157, 3) := by decide +kernel
theorem dX9_heldWithin_17 : decode cX9_heldWithin 17 = .ok (.ifCond .eq 19, 3) := by decide +kernel
theorem dX9_heldWithin_20 : decode cX9_heldWithin 20 = .ok (.aload_n 0, 1) := by decide +kernel
theorem dX9_heldWithin_21 : decode cX9_heldWithin 21 = .ok (.aload_n 0, 1) := by decide +kernel
theorem dX9_heldWithin_22 : decode cX9_heldWithin 22 = .ok (.iload_n 3, 1) := by decide +kernel
theorem dX9_heldWithin_23 : decode cX9_heldWithin 23 = .ok (.invokevirtual 151, 3) := by decide +kernel
theorem dX9_heldWithin_26 : decode cX9_heldWithin 26 = .ok (.iload_n 1, 1) := by decide +kernel
theorem dX9_heldWithin_27 : decode cX9_heldWithin 27 = .ok (.invokevirtual 164, 3) := by decide +kernel
theorem dX9_heldWithin_30 : decode cX9_heldWithin 30 = .ok (.ifCond .eq 6, 3) := by decide +kernel
theorem dX9_heldWithin_33 : decode cX9_heldWithin 33 = .ok (.iinc 2 1, 3) := by decide +kernel
theorem dX9_heldWithin_36 : decode cX9_heldWithin 36 = .ok (.iinc 3 1, 3) := by decide +kernel
theorem dX9_heldWithin_39 : decode cX9_heldWithin 39 = .ok (.goto (-35), 3) := by decide +kernel
theorem dX9_heldWithin_42 : decode cX9_heldWithin 42 = .ok (.iload_n 2, 1) := by decide +kernel
theorem dX9_heldWithin_43 : decode cX9_heldWithin 43 = .ok (.ireturn, 1) := by decide +kernel
theorem dX9_youngestWithin_0 : decode cX9_youngestWithin 0 = .ok (.aload_n 0, 1) := by decide +kernel
theorem dX9_youngestWithin_1 : decode cX9_youngestWithin 1 = .ok (.getfield 71, 3) := by decide +kernel
theorem dX9_youngestWithin_4 : decode cX9_youngestWithin 4 = .ok (.iconst 1, 1) := by decide +kernel
theorem dX9_youngestWithin_5 : decode cX9_youngestWithin 5 = .ok (.isub, 1) := by decide +kernel
theorem dX9_youngestWithin_6 : decode cX9_youngestWithin 6 = .ok (.istore_n 2, 1) := by decide +kernel
theorem dX9_youngestWithin_7 : decode cX9_youngestWithin 7 = .ok (.iload_n 2, 1) := by decide +kernel
theorem dX9_youngestWithin_8 : decode cX9_youngestWithin 8 = .ok (.ifCond .lt 32, 3) := by decide +kernel
theorem dX9_youngestWithin_11 : decode cX9_youngestWithin 11 = .ok (.aload_n 0, 1) := by decide +kernel
theorem dX9_youngestWithin_12 : decode cX9_youngestWithin 12 = .ok (.iload_n 2, 1) := by decide +kernel
theorem dX9_youngestWithin_13 : decode cX9_youngestWithin 13 = .ok (.invokevirtual 157, 3) := by decide +kernel
theorem dX9_youngestWithin_16 : decode cX9_youngestWithin 16 = .ok (.ifCond .eq 18, 3) := by decide +kernel
theorem dX9_youngestWithin_19 : decode cX9_youngestWithin 19 = .ok (.aload_n 0, 1) := by decide +kernel
theorem dX9_youngestWithin_20 : decode cX9_youngestWithin 20 = .ok (.aload_n 0, 1) := by decide +kernel
theorem dX9_youngestWithin_21 : decode cX9_youngestWithin 21 = .ok (.iload_n 2, 1) := by decide +kernel
theorem dX9_youngestWithin_22 : decode cX9_youngestWithin 22 = .ok (.invokevirtual 151, 3) := by decide +kernel
theorem dX9_youngestWithin_25 : decode cX9_youngestWithin 25 = .ok (.iload_n 1, 1) := by decide +kernel
theorem dX9_youngestWithin_26 : decode cX9_youngestWithin 26 = .ok (.invokevirtual 164, 3) := by decide +kernel
theorem dX9_youngestWithin_29 : decode cX9_youngestWithin 29 = .ok (.ifCond .eq 5, 3) := by decide +kernel
theorem dX9_youngestWithin_32 : decode cX9_youngestWithin 32 = .ok (.iload_n 2, 1) := by decide +kernel
theorem dX9_youngestWithin_33 : decode cX9_youngestWithin 33 = .ok (.ireturn, 1) := by decide +kernel
theorem dX9_youngestWithin_34 : decode cX9_youngestWithin 34 = .ok (.iinc 2 (-1), 3) := by decide +kernel
theorem dX9_youngestWithin_37 : decode cX9_youngestWithin 37 = .ok (.goto (-30), 3) := by decide +kernel
theorem dX9_youngestWithin_40 : decode cX9_youngestWithin 40 = .ok (.bipush (-5), 2) := by decide +kernel
theorem dX9_youngestWithin_42 : decode cX9_youngestWithin 42 = .ok (.ireturn, 1) := by decide +kernel
theorem dX9_openScopes_0 : decode cX9_openScopes 0 = .ok (.iconst 0, 1) := by decide +kernel
theorem dX9_openScopes_1 : decode cX9_openScopes 1 = .ok (.istore_n 1, 1) := by decide +kernel
theorem dX9_openScopes_2 : decode cX9_openScopes 2 = .ok (.iconst 0, 1) := by decide +kernel
theorem dX9_openScopes_3 : decode cX9_openScopes 3 = .ok (.istore_n 2, 1) := by decide +kernel
theorem dX9_openScopes_4 : decode cX9_openScopes 4 = .ok (.iload_n 2, 1) := by decide +kernel
theorem dX9_openScopes_5 : decode cX9_openScopes 5 = .ok (.aload_n 0, 1) := by decide +kernel
theorem dX9_openScopes_6 : decode cX9_openScopes 6 = .ok (.getfield 57, 3) := by decide +kernel
theorem dX9_openScopes_9 : decode cX9_openScopes 9 = .ok (.if_icmp .ge 20, 3) := by decide +kernel
theorem dX9_openScopes_12 : decode cX9_openScopes 12 = .ok (.aload_n 0, 1) := by decide +kernel
theorem dX9_openScopes_13 : decode cX9_openScopes 13 = .ok (.iload_n 2, 1) := by decide +kernel
theorem dX9_openScopes_14 : decode cX9_openScopes 14 = .ok (.invokevirtual 154, 3) := by decide +kernel
theorem dX9_openScopes_17 : decode cX9_openScopes 17 = .ok (.ifCond .eq 6, 3) := by decide +kernel
theorem dX9_openScopes_20 : decode cX9_openScopes 20 = .ok (.iinc 1 1, 3) := by decide +kernel
theorem dX9_openScopes_23 : decode cX9_openScopes 23 = .ok (.iinc 2 1, 3) := by decide +kernel
theorem dX9_openScopes_26 : decode cX9_openScopes 26 = .ok (.goto (-22), 3) := by decide +kernel
theorem dX9_openScopes_29 : decode cX9_openScopes 29 = .ok (.iload_n 1, 1) := by decide +kernel
theorem dX9_openScopes_30 : decode cX9_openScopes 30 = .ok (.ireturn, 1) := by decide +kernel
theorem dX9_nameOf_0 : decode cX9_nameOf 0 = .ok (.aload_n 0, 1) := by decide +kernel
theorem dX9_nameOf_1 : decode cX9_nameOf 1 = .ok (.iload_n 1, 1) := by decide +kernel
theorem dX9_nameOf_2 : decode cX9_nameOf 2 = .ok (.invokevirtual 96, 3) := by decide +kernel
theorem dX9_nameOf_5 : decode cX9_nameOf 5 = .ok (.astore_n 2, 1) := by decide +kernel
theorem dX9_nameOf_6 : decode cX9_nameOf 6 = .ok (.aload_n 2, 1) := by decide +kernel
theorem dX9_nameOf_7 : decode cX9_nameOf 7 = .ok (.ifnonnull 7, 3) := by decide +kernel
theorem dX9_nameOf_14 : decode cX9_nameOf 14 = .ok (.aload_n 2, 1) := by decide +kernel
theorem dX9_nameOf_15 : decode cX9_nameOf 15 = .ok (.getfield 106, 3) := by decide +kernel
theorem dX9_nameOf_18 : decode cX9_nameOf 18 = .ok (.lreturn, 1) := by decide +kernel
theorem dX9_heldWithName_0 : decode cX9_heldWithName 0 = .ok (.iconst 0, 1) := by decide +kernel
theorem dX9_heldWithName_1 : decode cX9_heldWithName 1 = .ok (.istore_n 3, 1) := by decide +kernel
theorem dX9_heldWithName_2 : decode cX9_heldWithName 2 = .ok (.iload_n 3, 1) := by decide +kernel
theorem dX9_heldWithName_3 : decode cX9_heldWithName 3 = .ok (.aload_n 0, 1) := by decide +kernel
theorem dX9_heldWithName_4 : decode cX9_heldWithName 4 = .ok (.getfield 71, 3) := by decide +kernel
theorem dX9_heldWithName_7 : decode cX9_heldWithName 7 = .ok (.if_icmp .ge 46, 3) := by decide +kernel
theorem dX9_heldWithName_10 : decode cX9_heldWithName 10 = .ok (.iload_n 3, 1) := by decide +kernel
theorem dX9_heldWithName_11 : decode cX9_heldWithName 11 = .ok (.aload_n 0, 1) := by decide +kernel
theorem dX9_heldWithName_12 : decode cX9_heldWithName 12 = .ok (.getfield 11, 3) := by decide +kernel
theorem dX9_heldWithName_15 : decode cX9_heldWithName 15 = .ok (.arraylength, 1) := by decide +kernel
theorem dX9_heldWithName_16 : decode cX9_heldWithName 16 = .ok (.if_icmp .ge 37, 3) := by decide +kernel
theorem dX9_heldWithName_19 : decode cX9_heldWithName 19 = .ok (.aload_n 0, 1) := by decide +kernel
theorem dX9_heldWithName_20 : decode cX9_heldWithName 20 = .ok (.getfield 11, 3) := by decide +kernel
theorem dX9_heldWithName_23 : decode cX9_heldWithName 23 = .ok (.iload_n 3, 1) := by decide +kernel
theorem dX9_heldWithName_24 : decode cX9_heldWithName 24 = .ok (.aaload, 1) := by decide +kernel
theorem dX9_heldWithName_25 : decode cX9_heldWithName 25 = .ok (.getfield 114, 3) := by decide +kernel
theorem dX9_heldWithName_28 : decode cX9_heldWithName 28 = .ok (.ifCond .ne 19, 3) := by decide +kernel
theorem dX9_heldWithName_31 : decode cX9_heldWithName 31 = .ok (.aload_n 0, 1) := by decide +kernel
theorem dX9_heldWithName_32 : decode cX9_heldWithName 32 = .ok (.getfield 11, 3) := by decide +kernel
theorem dX9_heldWithName_35 : decode cX9_heldWithName 35 = .ok (.iload_n 3, 1) := by decide +kernel
theorem dX9_heldWithName_36 : decode cX9_heldWithName 36 = .ok (.aaload, 1) := by decide +kernel
theorem dX9_heldWithName_37 : decode cX9_heldWithName 37 = .ok (.getfield 106, 3) := by decide +kernel
theorem dX9_heldWithName_40 : decode cX9_heldWithName 40 = .ok (.lload_n 1, 1) := by decide +kernel
theorem dX9_heldWithName_41 : decode cX9_heldWithName 41 = .ok (.lcmp, 1) := by decide +kernel
theorem dX9_heldWithName_42 : decode cX9_heldWithName 42 = .ok (.ifCond .ne 5, 3) := by decide +kernel
theorem dX9_heldWithName_45 : decode cX9_heldWithName 45 = .ok (.iload_n 3, 1) := by decide +kernel
theorem dX9_heldWithName_46 : decode cX9_heldWithName 46 = .ok (.ireturn, 1) := by decide +kernel
theorem dX9_heldWithName_47 : decode cX9_heldWithName 47 = .ok (.iinc 3 1, 3) := by decide +kernel
theorem dX9_heldWithName_50 : decode cX9_heldWithName 50 = .ok (.goto (-48), 3) := by decide +kernel
theorem dX9_heldWithName_53 : decode cX9_heldWithName 53 = .ok (.bipush (-5), 2) := by decide +kernel
theorem dX9_heldWithName_55 : decode cX9_heldWithName 55 = .ok (.ireturn, 1) := by decide +kernel
theorem dX9_heldFrom_0 : decode cX9_heldFrom 0 = .ok (.bipush (-5), 2) := by decide +kernel
theorem dX9_heldFrom_2 : decode cX9_heldFrom 2 = .ok (.istore_n 2, 1) := by decide +kernel
theorem dX9_heldFrom_3 : decode cX9_heldFrom 3 = .ok (.iconst 0, 1) := by decide +kernel
theorem dX9_heldFrom_4 : decode cX9_heldFrom 4 = .ok (.istore_n 3, 1) := by decide +kernel
theorem dX9_heldFrom_5 : decode cX9_heldFrom 5 = .ok (.iload_n 3, 1) := by decide +kernel
theorem dX9_heldFrom_6 : decode cX9_heldFrom 6 = .ok (.aload_n 0, 1) := by decide +kernel
theorem dX9_heldFrom_7 : decode cX9_heldFrom 7 = .ok (.getfield 71, 3) := by decide +kernel
theorem dX9_heldFrom_10 : decode cX9_heldFrom 10 = .ok (.if_icmp .ge 49, 3) := by decide +kernel
theorem dX9_heldFrom_13 : decode cX9_heldFrom 13 = .ok (.aload_n 0, 1) := by decide +kernel
theorem dX9_heldFrom_14 : decode cX9_heldFrom 14 = .ok (.iload_n 3, 1) := by decide +kernel
theorem dX9_heldFrom_15 : decode cX9_heldFrom 15 = .ok (.invokevirtual 157, 3) := by decide +kernel
theorem dX9_heldFrom_18 : decode cX9_heldFrom 18 = .ok (.ifCond .eq 35, 3) := by decide +kernel
theorem dX9_heldFrom_21 : decode cX9_heldFrom 21 = .ok (.aload_n 0, 1) := by decide +kernel
theorem dX9_heldFrom_22 : decode cX9_heldFrom 22 = .ok (.iload_n 3, 1) := by decide +kernel
theorem dX9_heldFrom_23 : decode cX9_heldFrom 23 = .ok (.invokevirtual 168, 3) := by decide +kernel
theorem dX9_heldFrom_26 : decode cX9_heldFrom 26 = .ok (.aload_n 1, 1) := by decide +kernel
theorem dX9_heldFrom_27 : decode cX9_heldFrom 27 = .ok (.invokestatic 172, 3) := by decide +kernel
theorem dX9_heldFrom_30 : decode cX9_heldFrom 30 = .ok (.ifCond .ne 23, 3) := by decide +kernel
theorem dX9_heldFrom_33 : decode cX9_heldFrom 33 = .ok (.iload_n 2, 1) := by decide +kernel
theorem dX9_heldFrom_34 : decode cX9_heldFrom 34 = .ok (.ifCond .lt 17, 3) := by decide +kernel
theorem dX9_heldFrom_37 : decode cX9_heldFrom 37 = .ok (.aload_n 0, 1) := by decide +kernel
theorem dX9_heldFrom_38 : decode cX9_heldFrom 38 = .ok (.iload_n 3, 1) := by decide +kernel
theorem dX9_heldFrom_39 : decode cX9_heldFrom 39 = .ok (.invokevirtual 168, 3) := by decide +kernel
theorem dX9_heldFrom_42 : decode cX9_heldFrom 42 = .ok (.aload_n 0, 1) := by decide +kernel
theorem dX9_heldFrom_43 : decode cX9_heldFrom 43 = .ok (.iload_n 2, 1) := by decide +kernel
theorem dX9_heldFrom_44 : decode cX9_heldFrom 44 = .ok (.invokevirtual 168, 3) := by decide +kernel
theorem dX9_heldFrom_47 : decode cX9_heldFrom 47 = .ok (.lcmp, 1) := by decide +kernel
theorem dX9_heldFrom_48 : decode cX9_heldFrom 48 = .ok (.ifCond .ge 5, 3) := by decide +kernel
theorem dX9_heldFrom_51 : decode cX9_heldFrom 51 = .ok (.iload_n 3, 1) := by decide +kernel
theorem dX9_heldFrom_52 : decode cX9_heldFrom 52 = .ok (.istore_n 2, 1) := by decide +kernel
theorem dX9_heldFrom_53 : decode cX9_heldFrom 53 = .ok (.iinc 3 1, 3) := by decide +kernel
theorem dX9_heldFrom_56 : decode cX9_heldFrom 56 = .ok (.goto (-51), 3) := by decide +kernel
theorem dX9_heldFrom_59 : decode cX9_heldFrom 59 = .ok (.iload_n 2, 1) := by decide +kernel
theorem dX9_heldFrom_60 : decode cX9_heldFrom 60 = .ok (.ireturn, 1) := by decide +kernel
theorem dX9_isLess_0 : decode cX9_isLess 0 = .ok (.iconst 0, 1) := by decide +kernel
theorem dX9_isLess_1 : decode cX9_isLess 1 = .ok (.istore_n 3, 1) := by decide +kernel
theorem dX9_isLess_2 : decode cX9_isLess 2 = .ok (.iload_n 3, 1) := by decide +kernel
theorem dX9_isLess_3 : decode cX9_isLess 3 = .ok (.bipush 7, 2) := by decide +kernel
theorem dX9_isLess_5 : decode cX9_isLess 5 = .ok (.if_icmp .gt 42, 3) := by decide +kernel
theorem dX9_isLess_8 : decode cX9_isLess 8 = .ok (.lload_n 0, 1) := by decide +kernel
theorem dX9_isLess_9 : decode cX9_isLess 9 = .ok (.iload_n 3, 1) := by decide +kernel
theorem dX9_isLess_10 : decode cX9_isLess 10 = .ok (.invokestatic 176, 3) := by decide +kernel
theorem dX9_isLess_13 : decode cX9_isLess 13 = .ok (.istore 4, 2) := by decide +kernel
theorem dX9_isLess_15 : decode cX9_isLess 15 = .ok (.iload 4, 2) := by decide +kernel
theorem dX9_isLess_17 : decode cX9_isLess 17 = .ok (.aload_n 2, 1) := by decide +kernel
theorem dX9_isLess_18 : decode cX9_isLess 18 = .ok (.iload_n 3, 1) := by decide +kernel
theorem dX9_isLess_19 : decode cX9_isLess 19 = .ok (.invokevirtual 147, 3) := by decide +kernel
theorem dX9_isLess_22 : decode cX9_isLess 22 = .ok (.if_icmp .eq 19, 3) := by decide +kernel
theorem dX9_isLess_25 : decode cX9_isLess 25 = .ok (.iload 4, 2) := by decide +kernel
theorem dX9_isLess_27 : decode cX9_isLess 27 = .ok (.aload_n 2, 1) := by decide +kernel
theorem dX9_isLess_28 : decode cX9_isLess 28 = .ok (.iload_n 3, 1) := by decide +kernel
theorem dX9_isLess_29 : decode cX9_isLess 29 = .ok (.invokevirtual 147, 3) := by decide +kernel
theorem dX9_isLess_32 : decode cX9_isLess 32 = .ok (.if_icmp .ge 7, 3) := by decide +kernel
theorem dX9_isLess_35 : decode cX9_isLess 35 = .ok (.iconst 1, 1) := by decide +kernel
theorem dX9_isLess_36 : decode cX9_isLess 36 = .ok (.goto 4, 3) := by decide +kernel
theorem dX9_isLess_39 : decode cX9_isLess 39 = .ok (.iconst 0, 1) := by decide +kernel
theorem dX9_isLess_40 : decode cX9_isLess 40 = .ok (.ireturn, 1) := by decide +kernel
theorem dX9_isLess_41 : decode cX9_isLess 41 = .ok (.iinc 3 1, 3) := by decide +kernel
theorem dX9_isLess_44 : decode cX9_isLess 44 = .ok (.goto (-42), 3) := by decide +kernel
theorem dX9_isLess_47 : decode cX9_isLess 47 = .ok (.iconst 0, 1) := by decide +kernel
theorem dX9_isLess_48 : decode cX9_isLess 48 = .ok (.ireturn, 1) := by decide +kernel
theorem dX9_heldAtPlace_0 : decode cX9_heldAtPlace 0 = .ok (.iconst 0, 1) := by decide +kernel
theorem dX9_heldAtPlace_1 : decode cX9_heldAtPlace 1 = .ok (.istore_n 2, 1) := by decide +kernel
theorem dX9_heldAtPlace_2 : decode cX9_heldAtPlace 2 = .ok (.iload_n 2, 1) := by decide +kernel
theorem dX9_heldAtPlace_3 : decode cX9_heldAtPlace 3 = .ok (.aload_n 0, 1) := by decide +kernel
theorem dX9_heldAtPlace_4 : decode cX9_heldAtPlace 4 = .ok (.getfield 71, 3) := by decide +kernel
theorem dX9_heldAtPlace_7 : decode cX9_heldAtPlace 7 = .ok (.if_icmp .ge 32, 3) := by decide +kernel
theorem dX9_heldAtPlace_10 : decode cX9_heldAtPlace 10 = .ok (.aload_n 0, 1) := by decide +kernel
theorem dX9_heldAtPlace_11 : decode cX9_heldAtPlace 11 = .ok (.iload_n 2, 1) := by decide +kernel
theorem dX9_heldAtPlace_12 : decode cX9_heldAtPlace 12 = .ok (.invokevirtual 157, 3) := by decide +kernel
theorem dX9_heldAtPlace_15 : decode cX9_heldAtPlace 15 = .ok (.ifCond .eq 18, 3) := by decide +kernel
theorem dX9_heldAtPlace_18 : decode cX9_heldAtPlace 18 = .ok (.aload_n 0, 1) := by decide +kernel
theorem dX9_heldAtPlace_19 : decode cX9_heldAtPlace 19 = .ok (.aload_n 0, 1) := by decide +kernel
theorem dX9_heldAtPlace_20 : decode cX9_heldAtPlace 20 = .ok (.iload_n 2, 1) := by decide +kernel
theorem dX9_heldAtPlace_21 : decode cX9_heldAtPlace 21 = .ok (.invokevirtual 168, 3) := by decide +kernel
theorem dX9_heldAtPlace_24 : decode cX9_heldAtPlace 24 = .ok (.invokevirtual 180, 3) := by decide +kernel
theorem dX9_heldAtPlace_27 : decode cX9_heldAtPlace 27 = .ok (.iload_n 1, 1) := by decide +kernel
theorem dX9_heldAtPlace_28 : decode cX9_heldAtPlace 28 = .ok (.if_icmp .ne 5, 3) := by decide +kernel
theorem dX9_heldAtPlace_31 : decode cX9_heldAtPlace 31 = .ok (.iload_n 2, 1) := by decide +kernel
theorem dX9_heldAtPlace_32 : decode cX9_heldAtPlace 32 = .ok (.ireturn, 1) := by decide +kernel
theorem dX9_heldAtPlace_33 : decode cX9_heldAtPlace 33 = .ok (.iinc 2 1, 3) := by decide +kernel
theorem dX9_heldAtPlace_36 : decode cX9_heldAtPlace 36 = .ok (.goto (-34), 3) := by decide +kernel
theorem dX9_heldAtPlace_39 : decode cX9_heldAtPlace 39 = .ok (.iconst (-1), 1) := by decide +kernel
theorem dX9_heldAtPlace_40 : decode cX9_heldAtPlace 40 = .ok (.ireturn, 1) := by decide +kernel
theorem dX9_heldAhead_0 : decode cX9_heldAhead 0 = .ok (.iconst 0, 1) := by decide +kernel
theorem dX9_heldAhead_1 : decode cX9_heldAhead 1 = .ok (.istore_n 3, 1) := by decide +kernel
theorem dX9_heldAhead_2 : decode cX9_heldAhead 2 = .ok (.iconst 0, 1) := by decide +kernel
theorem dX9_heldAhead_3 : decode cX9_heldAhead 3 = .ok (.istore 4, 2) := by decide +kernel
theorem dX9_heldAhead_5 : decode cX9_heldAhead 5 = .ok (.iload 4, 2) := by decide +kernel
theorem dX9_heldAhead_7 : decode cX9_heldAhead 7 = .ok (.aload_n 0, 1) := by decide +kernel
theorem dX9_heldAhead_8 : decode cX9_heldAhead 8 = .ok (.getfield 71, 3) := by decide +kernel
theorem dX9_heldAhead_11 : decode cX9_heldAhead 11 = .ok (.if_icmp .ge 32, 3) := by decide +kernel
theorem dX9_heldAhead_14 : decode cX9_heldAhead 14 = .ok (.aload_n 0, 1) := by decide +kernel
theorem dX9_heldAhead_15 : decode cX9_heldAhead 15 = .ok (.iload 4, 2) := by decide +kernel
theorem dX9_heldAhead_17 : decode cX9_heldAhead 17 = .ok (.invokevirtual 157, 3) := by decide +kernel
theorem dX9_heldAhead_20 : decode cX9_heldAhead 20 = .ok (.ifCond .eq 17, 3) := by decide +kernel
theorem dX9_heldAhead_23 : decode cX9_heldAhead 23 = .ok (.aload_n 0, 1) := by decide +kernel
theorem dX9_heldAhead_24 : decode cX9_heldAhead 24 = .ok (.iload 4, 2) := by decide +kernel
theorem dX9_heldAhead_26 : decode cX9_heldAhead 26 = .ok (.invokevirtual 168, 3) := by decide +kernel
theorem dX9_heldAhead_29 : decode cX9_heldAhead 29 = .ok (.lload_n 1, 1) := by decide +kernel
theorem dX9_heldAhead_30 : decode cX9_heldAhead 30 = .ok (.lcmp, 1) := by decide +kernel
theorem dX9_heldAhead_31 : decode cX9_heldAhead 31 = .ok (.ifCond .ge 6, 3) := by decide +kernel
theorem dX9_heldAhead_34 : decode cX9_heldAhead 34 = .ok (.iinc 3 1, 3) := by decide +kernel
theorem dX9_heldAhead_37 : decode cX9_heldAhead 37 = .ok (.iinc 4 1, 3) := by decide +kernel
theorem dX9_heldAhead_40 : decode cX9_heldAhead 40 = .ok (.goto (-35), 3) := by decide +kernel
theorem dX9_heldAhead_43 : decode cX9_heldAhead 43 = .ok (.iload_n 3, 1) := by decide +kernel
theorem dX9_heldAhead_44 : decode cX9_heldAhead 44 = .ok (.ireturn, 1) := by decide +kernel
theorem dX9_readyTasks_0 : decode cX9_readyTasks 0 = .ok (.iconst 0, 1) := by decide +kernel
theorem dX9_readyTasks_1 : decode cX9_readyTasks 1 = .ok (.istore_n 1, 1) := by decide +kernel
theorem dX9_readyTasks_2 : decode cX9_readyTasks 2 = .ok (.iconst 0, 1) := by decide +kernel
theorem dX9_readyTasks_3 : decode cX9_readyTasks 3 = .ok (.istore_n 2, 1) := by decide +kernel
theorem dX9_readyTasks_4 : decode cX9_readyTasks 4 = .ok (.iload_n 2, 1) := by decide +kernel
theorem dX9_readyTasks_5 : decode cX9_readyTasks 5 = .ok (.aload_n 0, 1) := by decide +kernel
theorem dX9_readyTasks_6 : decode cX9_readyTasks 6 = .ok (.getfield 81, 3) := by decide +kernel
theorem dX9_readyTasks_9 : decode cX9_readyTasks 9 = .ok (.if_icmp .ge 20, 3) := by decide +kernel
theorem dX9_readyTasks_12 : decode cX9_readyTasks 12 = .ok (.aload_n 0, 1) := by decide +kernel
theorem dX9_readyTasks_13 : decode cX9_readyTasks 13 = .ok (.iload_n 2, 1) := by decide +kernel
theorem dX9_readyTasks_14 : decode cX9_readyTasks 14 = .ok (.invokevirtual 184, 3) := by decide +kernel
theorem dX9_readyTasks_17 : decode cX9_readyTasks 17 = .ok (.ifCond .eq 6, 3) := by decide +kernel
theorem dX9_readyTasks_20 : decode cX9_readyTasks 20 = .ok (.iinc 1 1, 3) := by decide +kernel
theorem dX9_readyTasks_23 : decode cX9_readyTasks 23 = .ok (.iinc 2 1, 3) := by decide +kernel
theorem dX9_readyTasks_26 : decode cX9_readyTasks 26 = .ok (.goto (-22), 3) := by decide +kernel
theorem dX9_readyTasks_29 : decode cX9_readyTasks 29 = .ok (.iload_n 1, 1) := by decide +kernel
theorem dX9_readyTasks_30 : decode cX9_readyTasks 30 = .ok (.ireturn, 1) := by decide +kernel
theorem dX9_readyAtPlace_0 : decode cX9_readyAtPlace 0 = .ok (.iconst 0, 1) := by decide +kernel
theorem dX9_readyAtPlace_1 : decode cX9_readyAtPlace 1 = .ok (.istore_n 2, 1) := by decide +kernel
theorem dX9_readyAtPlace_2 : decode cX9_readyAtPlace 2 = .ok (.iload_n 2, 1) := by decide +kernel
theorem dX9_readyAtPlace_3 : decode cX9_readyAtPlace 3 = .ok (.aload_n 0, 1) := by decide +kernel
theorem dX9_readyAtPlace_4 : decode cX9_readyAtPlace 4 = .ok (.getfield 81, 3) := by decide +kernel
theorem dX9_readyAtPlace_7 : decode cX9_readyAtPlace 7 = .ok (.if_icmp .ge 28, 3) := by decide +kernel
theorem dX9_readyAtPlace_10 : decode cX9_readyAtPlace 10 = .ok (.aload_n 0, 1) := by decide +kernel
theorem dX9_readyAtPlace_11 : decode cX9_readyAtPlace 11 = .ok (.iload_n 2, 1) := by decide +kernel
theorem dX9_readyAtPlace_12 : decode cX9_readyAtPlace 12 = .ok (.invokevirtual 184, 3) := by decide +kernel
theorem dX9_readyAtPlace_15 : decode cX9_readyAtPlace 15 = .ok (.ifCond .eq 14, 3) := by decide +kernel
theorem dX9_readyAtPlace_18 : decode cX9_readyAtPlace 18 = .ok (.aload_n 0, 1) := by decide +kernel
theorem dX9_readyAtPlace_19 : decode cX9_readyAtPlace 19 = .ok (.iload_n 2, 1) := by decide +kernel
theorem dX9_readyAtPlace_20 : decode cX9_readyAtPlace 20 = .ok (.invokevirtual 187, 3) := by decide +kernel
theorem dX9_readyAtPlace_23 : decode cX9_readyAtPlace 23 = .ok (.iload_n 1, 1) := by decide +kernel
theorem dX9_readyAtPlace_24 : decode cX9_readyAtPlace 24 = .ok (.if_icmp .ne 5, 3) := by decide +kernel
theorem dX9_readyAtPlace_27 : decode cX9_readyAtPlace 27 = .ok (.iload_n 2, 1) := by decide +kernel
theorem dX9_readyAtPlace_28 : decode cX9_readyAtPlace 28 = .ok (.ireturn, 1) := by decide +kernel
theorem dX9_readyAtPlace_29 : decode cX9_readyAtPlace 29 = .ok (.iinc 2 1, 3) := by decide +kernel
theorem dX9_readyAtPlace_32 : decode cX9_readyAtPlace 32 = .ok (.goto (-30), 3) := by decide +kernel
theorem dX9_readyAtPlace_35 : decode cX9_readyAtPlace 35 = .ok (.bipush (-5), 2) := by decide +kernel
theorem dX9_readyAtPlace_37 : decode cX9_readyAtPlace 37 = .ok (.ireturn, 1) := by decide +kernel
theorem dX9_readyAhead_0 : decode cX9_readyAhead 0 = .ok (.aload_n 0, 1) := by decide +kernel
theorem dX9_readyAhead_1 : decode cX9_readyAhead 1 = .ok (.iload_n 1, 1) := by decide +kernel
theorem dX9_readyAhead_2 : decode cX9_readyAhead 2 = .ok (.invokevirtual 128, 3) := by decide +kernel
theorem dX9_readyAhead_5 : decode cX9_readyAhead 5 = .ok (.astore_n 2, 1) := by decide +kernel
theorem dX9_readyAhead_6 : decode cX9_readyAhead 6 = .ok (.iconst 0, 1) := by decide +kernel
theorem dX9_readyAhead_7 : decode cX9_readyAhead 7 = .ok (.istore_n 3, 1) := by decide +kernel
theorem dX9_readyAhead_8 : decode cX9_readyAhead 8 = .ok (.iconst 0, 1) := by decide +kernel
theorem dX9_readyAhead_9 : decode cX9_readyAhead 9 = .ok (.istore 4, 2) := by decide +kernel
theorem dX9_readyAhead_11 : decode cX9_readyAhead 11 = .ok (.iload 4, 2) := by decide +kernel
theorem dX9_readyAhead_13 : decode cX9_readyAhead 13 = .ok (.aload_n 0, 1) := by decide +kernel
theorem dX9_readyAhead_14 : decode cX9_readyAhead 14 = .ok (.getfield 81, 3) := by decide +kernel
theorem dX9_readyAhead_17 : decode cX9_readyAhead 17 = .ok (.if_icmp .ge 61, 3) := by decide +kernel
theorem dX9_readyAhead_20 : decode cX9_readyAhead 20 = .ok (.aload_n 0, 1) := by decide +kernel
theorem dX9_readyAhead_21 : decode cX9_readyAhead 21 = .ok (.iload 4, 2) := by decide +kernel
theorem dX9_readyAhead_23 : decode cX9_readyAhead 23 = .ok (.invokevirtual 128, 3) := by decide +kernel
theorem dX9_readyAhead_26 : decode cX9_readyAhead 26 = .ok (.astore 5, 2) := by decide +kernel
theorem dX9_readyAhead_28 : decode cX9_readyAhead 28 = .ok (.aload_n 2, 1) := by decide +kernel
theorem dX9_readyAhead_29 : decode cX9_readyAhead 29 = .ok (.ifnull 43, 3) := by decide +kernel
theorem dX9_readyAhead_32 : decode cX9_readyAhead 32 = .ok (.aload 5, 2) := by decide +kernel
theorem dX9_readyAhead_34 : decode cX9_readyAhead 34 = .ok (.ifnull 38, 3) := by decide +kernel
theorem dX9_readyAhead_37 : decode cX9_readyAhead 37 = .ok (.aload 5, 2) := by decide +kernel
theorem dX9_readyAhead_39 : decode cX9_readyAhead 39 = .ok (.getfield 143, 3) := by decide +kernel
theorem dX9_readyAhead_42 : decode cX9_readyAhead 42 = .ok (.ifCond .ne 30, 3) := by decide +kernel
theorem dX9_readyAhead_45 : decode cX9_readyAhead 45 = .ok (.aload 5, 2) := by decide +kernel
theorem dX9_readyAhead_47 : decode cX9_readyAhead 47 = .ok (.aload_n 2, 1) := by decide +kernel
theorem dX9_readyAhead_48 : decode cX9_readyAhead 48 = .ok (.invokevirtual 190, 3) := by decide +kernel
theorem dX9_readyAhead_51 : decode cX9_readyAhead 51 = .ok (.ifCond .ne 18, 3) := by decide +kernel
theorem dX9_readyAhead_54 : decode cX9_readyAhead 54 = .ok (.iload 4, 2) := by decide +kernel
theorem dX9_readyAhead_56 : decode cX9_readyAhead 56 = .ok (.iload_n 1, 1) := by decide +kernel
theorem dX9_readyAhead_57 : decode cX9_readyAhead 57 = .ok (.if_icmp .ge 15, 3) := by decide +kernel
theorem dX9_readyAhead_60 : decode cX9_readyAhead 60 = .ok (.aload_n 2, 1) := by decide +kernel
theorem dX9_readyAhead_61 : decode cX9_readyAhead 61 = .ok (.aload 5, 2) := by decide +kernel
theorem dX9_readyAhead_63 : decode cX9_readyAhead 63 = .ok (.invokevirtual 190, 3) := by decide +kernel
theorem dX9_readyAhead_66 : decode cX9_readyAhead 66 = .ok (.ifCond .ne 6, 3) := by decide +kernel
theorem dX9_readyAhead_69 : decode cX9_readyAhead 69 = .ok (.iinc 3 1, 3) := by decide +kernel
theorem dX9_readyAhead_72 : decode cX9_readyAhead 72 = .ok (.iinc 4 1, 3) := by decide +kernel
theorem dX9_readyAhead_75 : decode cX9_readyAhead 75 = .ok (.goto (-64), 3) := by decide +kernel
theorem dX9_readyAhead_78 : decode cX9_readyAhead 78 = .ok (.iload_n 3, 1) := by decide +kernel
theorem dX9_readyAhead_79 : decode cX9_readyAhead 79 = .ok (.ireturn, 1) := by decide +kernel
theorem dX9_scopesNotShutOf_0 : decode cX9_scopesNotShutOf 0 = .ok (.iconst 0, 1) := by decide +kernel
theorem dX9_scopesNotShutOf_1 : decode cX9_scopesNotShutOf 1 = .ok (.istore_n 2, 1) := by decide +kernel
theorem dX9_scopesNotShutOf_2 : decode cX9_scopesNotShutOf 2 = .ok (.iconst 0, 1) := by decide +kernel
theorem dX9_scopesNotShutOf_3 : decode cX9_scopesNotShutOf 3 = .ok (.istore_n 3, 1) := by decide +kernel
theorem dX9_scopesNotShutOf_4 : decode cX9_scopesNotShutOf 4 = .ok (.iload_n 3, 1) := by decide +kernel
theorem dX9_scopesNotShutOf_5 : decode cX9_scopesNotShutOf 5 = .ok (.aload_n 0, 1) := by decide +kernel
theorem dX9_scopesNotShutOf_6 : decode cX9_scopesNotShutOf 6 = .ok (.getfield 57, 3) := by decide +kernel
theorem dX9_scopesNotShutOf_9 : decode cX9_scopesNotShutOf 9 = .ok (.if_icmp .ge 42, 3) := by decide +kernel
theorem dX9_scopesNotShutOf_12 : decode cX9_scopesNotShutOf 12 = .ok (.aload_n 0, 1) := by decide +kernel
theorem dX9_scopesNotShutOf_13 : decode cX9_scopesNotShutOf 13 = .ok (.iload_n 3, 1) := by decide +kernel
theorem dX9_scopesNotShutOf_14 : decode cX9_scopesNotShutOf 14 = .ok (.invokevirtual 61, 3) := by decide +kernel
theorem dX9_scopesNotShutOf_17 : decode cX9_scopesNotShutOf 17 = .ok (.astore 4, 2) := by decide +kernel
theorem dX9_scopesNotShutOf_19 : decode cX9_scopesNotShutOf 19 = .ok (.aload 4, 2) := by decide +kernel
theorem dX9_scopesNotShutOf_21 : decode cX9_scopesNotShutOf 21 = .ok (.ifnull 24, 3) := by decide +kernel
theorem dX9_scopesNotShutOf_24 : decode cX9_scopesNotShutOf 24 = .ok (.aload 4, 2) := by decide +kernel
theorem dX9_scopesNotShutOf_26 : decode cX9_scopesNotShutOf 26 = .ok (.getfield 68, 3) := by decide +kernel
theorem dX9_scopesNotShutOf_29 : decode cX9_scopesNotShutOf 29 = .ok (.iload_n 1, 1) := by decide +kernel
theorem dX9_scopesNotShutOf_30 : decode cX9_scopesNotShutOf 30 = .ok (.if_icmp .ne 15, 3) := by decide +kernel
theorem dX9_scopesNotShutOf_33 : decode cX9_scopesNotShutOf 33 = .ok (.aload 4, 2) := by decide +kernel
theorem dX9_scopesNotShutOf_35 : decode cX9_scopesNotShutOf 35 = .ok (.getfield 127, 3) := by decide +kernel
theorem dX9_scopesNotShutOf_38 : decode cX9_scopesNotShutOf 38 = .ok (.iconst 1, 1) := by decide +kernel
theorem dX9_scopesNotShutOf_39 : decode cX9_scopesNotShutOf 39 = .ok (.if_icmp .eq 6, 3) := by decide +kernel
theorem dX9_scopesNotShutOf_42 : decode cX9_scopesNotShutOf 42 = .ok (.iinc 2 1, 3) := by decide +kernel
theorem dX9_scopesNotShutOf_45 : decode cX9_scopesNotShutOf 45 = .ok (.iinc 3 1, 3) := by decide +kernel
theorem dX9_scopesNotShutOf_48 : decode cX9_scopesNotShutOf 48 = .ok (.goto (-44), 3) := by decide +kernel
theorem dX9_scopesNotShutOf_51 : decode cX9_scopesNotShutOf 51 = .ok (.iload_n 2, 1) := by decide +kernel
theorem dX9_scopesNotShutOf_52 : decode cX9_scopesNotShutOf 52 = .ok (.ireturn, 1) := by decide +kernel
theorem dX9_ownFault_0 : decode cX9_ownFault 0 = .ok (.aload_n 0, 1) := by decide +kernel
theorem dX9_ownFault_1 : decode cX9_ownFault 1 = .ok (.iload_n 1, 1) := by decide +kernel
theorem dX9_ownFault_2 : decode cX9_ownFault 2 = .ok (.invokevirtual 128, 3) := by decide +kernel
theorem dX9_ownFault_5 : decode cX9_ownFault 5 = .ok (.astore_n 2, 1) := by decide +kernel
theorem dX9_ownFault_6 : decode cX9_ownFault 6 = .ok (.aload_n 2, 1) := by decide +kernel
theorem dX9_ownFault_7 : decode cX9_ownFault 7 = .ok (.ifnonnull 7, 3) := by decide +kernel
theorem dX9_ownFault_10 : decode cX9_ownFault 10 = .ok (.iconst 0, 1) := by decide +kernel
theorem dX9_ownFault_11 : decode cX9_ownFault 11 = .ok (.goto 7, 3) := by decide +kernel
theorem dX9_ownFault_14 : decode cX9_ownFault 14 = .ok (.aload_n 2, 1) := by decide +kernel
theorem dX9_ownFault_15 : decode cX9_ownFault 15 = .ok (.getfield 194, 3) := by decide +kernel
theorem dX9_ownFault_18 : decode cX9_ownFault 18 = .ok (.ireturn, 1) := by decide +kernel
theorem dX9_faultCount_0 : decode cX9_faultCount 0 = .ok (.aload_n 0, 1) := by decide +kernel
theorem dX9_faultCount_1 : decode cX9_faultCount 1 = .ok (.getfield 47, 3) := by decide +kernel
theorem dX9_faultCount_4 : decode cX9_faultCount 4 = .ok (.iload_n 1, 1) := by decide +kernel
theorem dX9_faultCount_5 : decode cX9_faultCount 5 = .ok (.invokevirtual 197, 3) := by decide +kernel
theorem dX9_faultCount_8 : decode cX9_faultCount 8 = .ok (.aload_n 0, 1) := by decide +kernel
theorem dX9_faultCount_9 : decode cX9_faultCount 9 = .ok (.iload_n 1, 1) := by decide +kernel
theorem dX9_faultCount_10 : decode cX9_faultCount 10 = .ok (.invokevirtual 200, 3) := by decide +kernel
theorem dX9_faultCount_13 : decode cX9_faultCount 13 = .ok (.ifCond .ne 7, 3) := by decide +kernel
theorem dX9_faultCount_16 : decode cX9_faultCount 16 = .ok (.iconst 0, 1) := by decide +kernel
theorem dX9_faultCount_17 : decode cX9_faultCount 17 = .ok (.goto 4, 3) := by decide +kernel
theorem dX9_faultCount_20 : decode cX9_faultCount 20 = .ok (.iconst 1, 1) := by decide +kernel
theorem dX9_faultCount_21 : decode cX9_faultCount 21 = .ok (.iadd, 1) := by decide +kernel
theorem dX9_faultCount_22 : decode cX9_faultCount 22 = .ok (.ireturn, 1) := by decide +kernel
theorem dX9_faultNumber_0 : decode cX9_faultNumber 0 = .ok (.aload_n 0, 1) := by decide +kernel
theorem dX9_faultNumber_1 : decode cX9_faultNumber 1 = .ok (.iload_n 1, 1) := by decide +kernel
theorem dX9_faultNumber_2 : decode cX9_faultNumber 2 = .ok (.invokevirtual 200, 3) := by decide +kernel
theorem dX9_faultNumber_5 : decode cX9_faultNumber 5 = .ok (.istore_n 3, 1) := by decide +kernel
theorem dX9_faultNumber_6 : decode cX9_faultNumber 6 = .ok (.iload_n 3, 1) := by decide +kernel
theorem dX9_faultNumber_7 : decode cX9_faultNumber 7 = .ok (.ifCond .eq 9, 3) := by decide +kernel
theorem dX9_faultNumber_10 : decode cX9_faultNumber 10 = .ok (.iload_n 2, 1) := by decide +kernel
theorem dX9_faultNumber_11 : decode cX9_faultNumber 11 = .ok (.ifCond .ne 5, 3) := by decide +kernel
theorem dX9_faultNumber_14 : decode cX9_faultNumber 14 = .ok (.iload_n 3, 1) := by decide +kernel
theorem dX9_faultNumber_15 : decode cX9_faultNumber 15 = .ok (.ireturn, 1) := by decide +kernel
theorem dX9_faultNumber_16 : decode cX9_faultNumber 16 = .ok (.aload_n 0, 1) := by decide +kernel
theorem dX9_faultNumber_17 : decode cX9_faultNumber 17 = .ok (.getfield 47, 3) := by decide +kernel
theorem dX9_faultNumber_20 : decode cX9_faultNumber 20 = .ok (.getfield 203, 3) := by decide +kernel
theorem dX9_faultNumber_23 : decode cX9_faultNumber 23 = .ok (.aload_n 0, 1) := by decide +kernel
theorem dX9_faultNumber_24 : decode cX9_faultNumber 24 = .ok (.getfield 47, 3) := by decide +kernel
theorem dX9_faultNumber_27 : decode cX9_faultNumber 27 = .ok (.iload_n 1, 1) := by decide +kernel
theorem dX9_faultNumber_28 : decode cX9_faultNumber 28 = .ok (.iload_n 3, 1) := by decide +kernel
theorem dX9_faultNumber_29 : decode cX9_faultNumber 29 = .ok (.ifCond .ne 7, 3) := by decide +kernel
theorem dX9_faultNumber_32 : decode cX9_faultNumber 32 = .ok (.iload_n 2, 1) := by decide +kernel
theorem dX9_faultNumber_33 : decode cX9_faultNumber 33 = .ok (.goto 6, 3) := by decide +kernel
theorem dX9_faultNumber_36 : decode cX9_faultNumber 36 = .ok (.iload_n 2, 1) := by decide +kernel
theorem dX9_faultNumber_37 : decode cX9_faultNumber 37 = .ok (.iconst 1, 1) := by decide +kernel
theorem dX9_faultNumber_38 : decode cX9_faultNumber 38 = .ok (.isub, 1) := by decide +kernel
theorem dX9_faultNumber_39 : decode cX9_faultNumber 39 = .ok (.invokevirtual 206, 3) := by decide +kernel
theorem dX9_faultNumber_42 : decode cX9_faultNumber 42 = .ok (.invokevirtual 147, 3) := by decide +kernel
theorem dX9_faultNumber_45 : decode cX9_faultNumber 45 = .ok (.ireturn, 1) := by decide +kernel
theorem dX9_faultThing_0 : decode cX9_faultThing 0 = .ok (.aload_n 0, 1) := by decide +kernel
theorem dX9_faultThing_1 : decode cX9_faultThing 1 = .ok (.iload_n 1, 1) := by decide +kernel
theorem dX9_faultThing_2 : decode cX9_faultThing 2 = .ok (.invokevirtual 200, 3) := by decide +kernel
theorem dX9_faultThing_5 : decode cX9_faultThing 5 = .ok (.istore_n 3, 1) := by decide +kernel
theorem dX9_faultThing_6 : decode cX9_faultThing 6 = .ok (.iload_n 3, 1) := by decide +kernel
theorem dX9_faultThing_7 : decode cX9_faultThing 7 = .ok (.ifCond .eq 11, 3) := by decide +kernel
theorem dX9_faultThing_10 : decode cX9_faultThing 10 = .ok (.iload_n 2, 1) := by decide +kernel
theorem dX9_faultThing_11 : decode cX9_faultThing 11 = .ok (.ifCond .ne 7, 3) := by decide +kernel
theorem dX9_faultThing_14 : decode cX9_faultThing 14 = .ok (.iconst (-1), 1) := by decide +kernel
theorem dX9_faultThing_15 : decode cX9_faultThing 15 = .ok (.goto 22, 3) := by decide +kernel
theorem dX9_faultThing_18 : decode cX9_faultThing 18 = .ok (.aload_n 0, 1) := by decide +kernel
theorem dX9_faultThing_19 : decode cX9_faultThing 19 = .ok (.getfield 47, 3) := by decide +kernel
theorem dX9_faultThing_22 : decode cX9_faultThing 22 = .ok (.iload_n 1, 1) := by decide +kernel
theorem dX9_faultThing_23 : decode cX9_faultThing 23 = .ok (.iload_n 3, 1) := by decide +kernel
theorem dX9_faultThing_24 : decode cX9_faultThing 24 = .ok (.ifCond .ne 7, 3) := by decide +kernel
theorem dX9_faultThing_27 : decode cX9_faultThing 27 = .ok (.iload_n 2, 1) := by decide +kernel
theorem dX9_faultThing_28 : decode cX9_faultThing 28 = .ok (.goto 6, 3) := by decide +kernel
theorem dX9_faultThing_31 : decode cX9_faultThing 31 = .ok (.iload_n 2, 1) := by decide +kernel
theorem dX9_faultThing_32 : decode cX9_faultThing 32 = .ok (.iconst 1, 1) := by decide +kernel
theorem dX9_faultThing_33 : decode cX9_faultThing 33 = .ok (.isub, 1) := by decide +kernel
theorem dX9_faultThing_34 : decode cX9_faultThing 34 = .ok (.invokevirtual 206, 3) := by decide +kernel
theorem dX9_faultThing_37 : decode cX9_faultThing 37 = .ok (.istore 4, 2) := by decide +kernel
theorem dX9_faultThing_39 : decode cX9_faultThing 39 = .ok (.iload 4, 2) := by decide +kernel
theorem dX9_faultThing_41 : decode cX9_faultThing 41 = .ok (.ifCond .ge 7, 3) := by decide +kernel
theorem dX9_faultThing_44 : decode cX9_faultThing 44 = .ok (.iconst (-1), 1) := by decide +kernel
theorem dX9_faultThing_45 : decode cX9_faultThing 45 = .ok (.goto 15, 3) := by decide +kernel
theorem dX9_faultThing_48 : decode cX9_faultThing 48 = .ok (.aload_n 0, 1) := by decide +kernel
theorem dX9_faultThing_49 : decode cX9_faultThing 49 = .ok (.getfield 47, 3) := by decide +kernel
theorem dX9_faultThing_52 : decode cX9_faultThing 52 = .ok (.getfield 209, 3) := by decide +kernel
theorem dX9_faultThing_55 : decode cX9_faultThing 55 = .ok (.iload 4, 2) := by decide +kernel
theorem dX9_faultThing_57 : decode cX9_faultThing 57 = .ok (.invokevirtual 147, 3) := by decide +kernel
theorem dX9_faultThing_60 : decode cX9_faultThing 60 = .ok (.ireturn, 1) := by decide +kernel
theorem dX10_init_0 : decode cX10_init 0 = .ok (.aload_n 0, 1) := by decide +kernel
theorem dX10_init_1 : decode cX10_init 1 = .ok (.invokespecial 3, 3) := by decide +kernel
theorem dX10_init_4 : decode cX10_init 4 = .ok (.aload_n 0, 1) := by decide +kernel
theorem dX10_init_5 : decode cX10_init 5 = .ok (.new 9, 3) := by decide +kernel
theorem dX10_init_8 : decode cX10_init 8 = .ok (.dup, 1) := by decide +kernel
theorem dX10_init_9 : decode cX10_init 9 = .ok (.invokespecial 11, 3) := by decide +kernel
theorem dX10_init_12 : decode cX10_init 12 = .ok (.putfield 12, 3) := by decide +kernel
theorem dX10_init_15 : decode cX10_init 15 = .ok (.aload_n 0, 1) := by decide +kernel
theorem dX10_init_16 : decode cX10_init 16 = .ok (.aload_n 0, 1) := by decide +kernel
theorem dX10_init_17 : decode cX10_init 17 = .ok (.getfield 12, 3) := by decide +kernel
theorem dX10_init_20 : decode cX10_init 20 = .ok (.getfield 18, 3) := by decide +kernel
theorem dX10_init_23 : decode cX10_init 23 = .ok (.putfield 22, 3) := by decide +kernel
theorem dX10_init_26 : decode cX10_init 26 = .ok (.aload_n 0, 1) := by decide +kernel
theorem dX10_init_27 : decode cX10_init 27 = .ok (.new 23, 3) := by decide +kernel
theorem dX10_init_30 : decode cX10_init 30 = .ok (.dup, 1) := by decide +kernel
theorem dX10_init_31 : decode cX10_init 31 = .ok (.invokespecial 25, 3) := by decide +kernel
theorem dX10_init_34 : decode cX10_init 34 = .ok (.putfield 26, 3) := by decide +kernel
theorem dX10_init_37 : decode cX10_init 37 = .ok (.aload_n 0, 1) := by decide +kernel
theorem dX10_init_38 : decode cX10_init 38 = .ok (.aload_n 0, 1) := by decide +kernel
theorem dX10_init_39 : decode cX10_init 39 = .ok (.getfield 26, 3) := by decide +kernel
theorem dX10_init_42 : decode cX10_init 42 = .ok (.getfield 30, 3) := by decide +kernel
theorem dX10_init_45 : decode cX10_init 45 = .ok (.putfield 33, 3) := by decide +kernel
theorem dX10_init_48 : decode cX10_init 48 = .ok (.aload_n 0, 1) := by decide +kernel
theorem dX10_init_49 : decode cX10_init 49 = .ok (.iconst 4, 1) := by decide +kernel
theorem dX10_init_50 : decode cX10_init 50 = .ok (.anewarray 34, 3) := by decide +kernel
theorem dX10_init_53 : decode cX10_init 53 = .ok (.putfield 36, 3) := by decide +kernel
theorem dX10_init_56 : decode cX10_init 56 = .ok (.aload_n 0, 1) := by decide +kernel
theorem dX10_init_57 : decode cX10_init 57 = .ok (.new 40, 3) := by decide +kernel
theorem dX10_init_60 : decode cX10_init 60 = .ok (.dup, 1) := by decide +kernel
theorem dX10_init_61 : decode cX10_init 61 = .ok (.invokespecial 42, 3) := by decide +kernel
theorem dX10_init_64 : decode cX10_init 64 = .ok (.putfield 43, 3) := by decide +kernel
theorem dX10_init_67 : decode cX10_init 67 = .ok (.aload_n 0, 1) := by decide +kernel
theorem dX10_init_68 : decode cX10_init 68 = .ok (.aload_n 0, 1) := by decide +kernel
theorem dX10_init_69 : decode cX10_init 69 = .ok (.getfield 43, 3) := by decide +kernel
theorem dX10_init_72 : decode cX10_init 72 = .ok (.getfield 47, 3) := by decide +kernel
theorem dX10_init_75 : decode cX10_init 75 = .ok (.putfield 51, 3) := by decide +kernel
theorem dX10_init_78 : decode cX10_init 78 = .ok (.iconst 0, 1) := by decide +kernel
theorem dX10_init_79 : decode cX10_init 79 = .ok (.istore_n 1, 1) := by decide +kernel
theorem dX10_init_80 : decode cX10_init 80 = .ok (.iload_n 1, 1) := by decide +kernel
theorem dX10_init_81 : decode cX10_init 81 = .ok (.aload_n 0, 1) := by decide +kernel
theorem dX10_init_82 : decode cX10_init 82 = .ok (.getfield 36, 3) := by decide +kernel
theorem dX10_init_85 : decode cX10_init 85 = .ok (.arraylength, 1) := by decide +kernel
theorem dX10_init_86 : decode cX10_init 86 = .ok (.if_icmp .ge 35, 3) := by decide +kernel
theorem dX10_init_89 : decode cX10_init 89 = .ok (.aload_n 0, 1) := by decide +kernel
theorem dX10_init_90 : decode cX10_init 90 = .ok (.getfield 36, 3) := by decide +kernel
theorem dX10_init_93 : decode cX10_init 93 = .ok (.iload_n 1, 1) := by decide +kernel
theorem dX10_init_94 : decode cX10_init 94 = .ok (.new 34, 3) := by decide +kernel
theorem dX10_init_97 : decode cX10_init 97 = .ok (.dup, 1) := by decide +kernel
theorem dX10_init_98 : decode cX10_init 98 = .ok (.bipush 40, 2) := by decide +kernel
theorem dX10_init_100 : decode cX10_init 100 = .ok (.invokespecial 52, 3) := by decide +kernel
theorem dX10_init_103 : decode cX10_init 103 = .ok (.aastore, 1) := by decide +kernel
theorem dX10_init_104 : decode cX10_init 104 = .ok (.aload_n 0, 1) := by decide +kernel
theorem dX10_init_105 : decode cX10_init 105 = .ok (.getfield 36, 3) := by decide +kernel
theorem dX10_init_108 : decode cX10_init 108 = .ok (.iload_n 1, 1) := by decide +kernel
theorem dX10_init_109 : decode cX10_init 109 = .ok (.aaload, 1) := by decide +kernel
theorem dX10_init_110 : decode cX10_init 110 = .ok (.bipush (-11), 2) := by decide +kernel
theorem dX10_init_112 : decode cX10_init 112 = .ok (.putfield 55, 3) := by decide +kernel
theorem dX10_init_115 : decode cX10_init 115 = .ok (.iinc 1 1, 3) := by decide +kernel
theorem dX10_init_118 : decode cX10_init 118 = .ok (.goto (-38), 3) := by decide +kernel
theorem dX10_init_121 : decode cX10_init 121 = .ok (.return_, 1) := by decide +kernel
theorem dX10_feed_0 : decode cX10_feed 0 = .ok (.iload_n 1, 1) := by decide +kernel
theorem dX10_feed_1 : decode cX10_feed 1 = .ok (.iconst 1, 1) := by decide +kernel
theorem dX10_feed_2 : decode cX10_feed 2 = .ok (.if_icmp .lt 9, 3) := by decide +kernel
theorem dX10_feed_5 : decode cX10_feed 5 = .ok (.iload_n 1, 1) := by decide +kernel
theorem dX10_feed_6 : decode cX10_feed 6 = .ok (.bipush 127, 2) := by decide +kernel
theorem dX10_feed_8 : decode cX10_feed 8 = .ok (.if_icmp .le 6, 3) := by decide +kernel
theorem dX10_feed_11 : decode cX10_feed 11 = .ok (.bipush (-2), 2) := by decide +kernel
theorem dX10_feed_13 : decode cX10_feed 13 = .ok (.ireturn, 1) := by decide +kernel
theorem dX10_feed_14 : decode cX10_feed 14 = .ok (.aload_n 0, 1) := by decide +kernel
theorem dX10_feed_15 : decode cX10_feed 15 = .ok (.getfield 22, 3) := by decide +kernel
theorem dX10_feed_18 : decode cX10_feed 18 = .ok (.iload_n 1, 1) := by decide +kernel
theorem dX10_feed_19 : decode cX10_feed 19 = .ok (.invokevirtual 59, 3) := by decide +kernel
theorem dX10_feed_22 : decode cX10_feed 22 = .ok (.ifCond .eq 13, 3) := by decide +kernel
theorem dX10_feed_25 : decode cX10_feed 25 = .ok (.aload_n 0, 1) := by decide +kernel
theorem dX10_feed_26 : decode cX10_feed 26 = .ok (.getfield 22, 3) := by decide +kernel
theorem dX10_feed_29 : decode cX10_feed 29 = .ok (.getfield 55, 3) := by decide +kernel
theorem dX10_feed_32 : decode cX10_feed 32 = .ok (.goto 5, 3) := by decide +kernel
theorem dX10_feed_35 : decode cX10_feed 35 = .ok (.bipush (-4), 2) := by decide +kernel
theorem dX10_feed_37 : decode cX10_feed 37 = .ok (.ireturn, 1) := by decide +kernel
theorem dX10_clear_0 : decode cX10_clear 0 = .ok (.aload_n 0, 1) := by decide +kernel
theorem dX10_clear_1 : decode cX10_clear 1 = .ok (.getfield 22, 3) := by decide +kernel
theorem dX10_clear_4 : decode cX10_clear 4 = .ok (.getfield 55, 3) := by decide +kernel
theorem dX10_clear_7 : decode cX10_clear 7 = .ok (.istore_n 1, 1) := by decide +kernel
theorem dX10_clear_8 : decode cX10_clear 8 = .ok (.aload_n 0, 1) := by decide +kernel
theorem dX10_clear_9 : decode cX10_clear 9 = .ok (.getfield 22, 3) := by decide +kernel
theorem dX10_clear_12 : decode cX10_clear 12 = .ok (.iconst 0, 1) := by decide +kernel
theorem dX10_clear_13 : decode cX10_clear 13 = .ok (.putfield 55, 3) := by decide +kernel
theorem dX10_clear_16 : decode cX10_clear 16 = .ok (.iload_n 1, 1) := by decide +kernel
theorem dX10_clear_17 : decode cX10_clear 17 = .ok (.ireturn, 1) := by decide +kernel
theorem dX10_spell_0 : decode cX10_spell 0 = .ok (.aload_n 0, 1) := by decide +kernel
theorem dX10_spell_1 : decode cX10_spell 1 = .ok (.getfield 51, 3) := by decide +kernel
theorem dX10_spell_4 : decode cX10_spell 4 = .ok (.iload_n 1, 1) := by decide +kernel
theorem dX10_spell_5 : decode cX10_spell 5 = .ok (.invokevirtual 63, 3) := by decide +kernel
theorem dX10_spell_8 : decode cX10_spell 8 = .ok (.astore_n 2, 1) := by decide +kernel
theorem dX10_spell_9 : decode cX10_spell 9 = .ok (.aload_n 2, 1) := by decide +kernel
theorem dX10_spell_10 : decode cX10_spell 10 = .ok (.ifnonnull 7, 3) := by decide +kernel
theorem dX10_spell_13 : decode cX10_spell 13 = .ok (.iconst (-1), 1) := by decide +kernel
theorem dX10_spell_14 : decode cX10_spell 14 = .ok (.goto 14, 3) := by decide +kernel
theorem dX10_spell_17 : decode cX10_spell 17 = .ok (.aload_n 0, 1) := by decide +kernel
theorem dX10_spell_18 : decode cX10_spell 18 = .ok (.getfield 26, 3) := by decide +kernel
theorem dX10_spell_21 : decode cX10_spell 21 = .ok (.aload_n 2, 1) := by decide +kernel
theorem dX10_spell_22 : decode cX10_spell 22 = .ok (.getfield 69, 3) := by decide +kernel
theorem dX10_spell_25 : decode cX10_spell 25 = .ok (.invokevirtual 75, 3) := by decide +kernel
theorem dX10_spell_28 : decode cX10_spell 28 = .ok (.ireturn, 1) := by decide +kernel
theorem dX10_spellTask_0 : decode cX10_spellTask 0 = .ok (.aload_n 0, 1) := by decide +kernel
theorem dX10_spellTask_1 : decode cX10_spellTask 1 = .ok (.getfield 51, 3) := by decide +kernel
theorem dX10_spellTask_4 : decode cX10_spellTask 4 = .ok (.iload_n 1, 1) := by decide +kernel
theorem dX10_spellTask_5 : decode cX10_spellTask 5 = .ok (.invokevirtual 79, 3) := by decide +kernel
theorem dX10_spellTask_8 : decode cX10_spellTask 8 = .ok (.astore_n 2, 1) := by decide +kernel
theorem dX10_spellTask_9 : decode cX10_spellTask 9 = .ok (.aload_n 2, 1) := by decide +kernel
theorem dX10_spellTask_10 : decode cX10_spellTask 10 = .ok (.ifnonnull 7, 3) := by decide +kernel
theorem dX10_spellTask_13 : decode cX10_spellTask 13 = .ok (.iconst (-1), 1) := by decide +kernel
theorem dX10_spellTask_14 : decode cX10_spellTask 14 = .ok (.goto 14, 3) := by decide +kernel
theorem dX10_spellTask_17 : decode cX10_spellTask 17 = .ok (.aload_n 0, 1) := by decide +kernel
theorem dX10_spellTask_18 : decode cX10_spellTask 18 = .ok (.getfield 26, 3) := by decide +kernel
theorem dX10_spellTask_21 : decode cX10_spellTask 21 = .ok (.aload_n 2, 1) := by decide +kernel
theorem dX10_spellTask_22 : decode cX10_spellTask 22 = .ok (.getfield 83, 3) := by decide +kernel
theorem dX10_spellTask_25 : decode cX10_spellTask 25 = .ok (.invokevirtual 75, 3) := by decide +kernel
theorem dX10_spellTask_28 : decode cX10_spellTask 28 = .ok (.ireturn, 1) := by decide +kernel
theorem dX10_paper_0 : decode cX10_paper 0 = .ok (.aload_n 0, 1) := by decide +kernel
theorem dX10_paper_1 : decode cX10_paper 1 = .ok (.getfield 33, 3) := by decide +kernel
theorem dX10_paper_4 : decode cX10_paper 4 = .ok (.iload_n 1, 1) := by decide +kernel
theorem dX10_paper_5 : decode cX10_paper 5 = .ok (.invokevirtual 88, 3) := by decide +kernel
theorem dX10_paper_8 : decode cX10_paper 8 = .ok (.ifCond .eq 14, 3) := by decide +kernel
theorem dX10_paper_11 : decode cX10_paper 11 = .ok (.aload_n 0, 1) := by decide +kernel
theorem dX10_paper_12 : decode cX10_paper 12 = .ok (.getfield 33, 3) := by decide +kernel
theorem dX10_paper_15 : decode cX10_paper 15 = .ok (.iload_n 1, 1) := by decide +kernel
theorem dX10_paper_16 : decode cX10_paper 16 = .ok (.invokevirtual 91, 3) := by decide +kernel
theorem dX10_paper_19 : decode cX10_paper 19 = .ok (.goto 4, 3) := by decide +kernel
theorem dX10_paper_22 : decode cX10_paper 22 = .ok (.iconst (-1), 1) := by decide +kernel
theorem dX10_paper_23 : decode cX10_paper 23 = .ok (.ireturn, 1) := by decide +kernel
theorem dX10_open_0 : decode cX10_open 0 = .ok (.aload_n 0, 1) := by decide +kernel
theorem dX10_open_1 : decode cX10_open 1 = .ok (.getfield 51, 3) := by decide +kernel
theorem dX10_open_4 : decode cX10_open 4 = .ok (.iload_n 1, 1) := by decide +kernel
theorem dX10_open_5 : decode cX10_open 5 = .ok (.invokevirtual 95, 3) := by decide +kernel
theorem dX10_open_8 : decode cX10_open 8 = .ok (.astore_n 2, 1) := by decide +kernel
theorem dX10_open_9 : decode cX10_open 9 = .ok (.aload_n 2, 1) := by decide +kernel
theorem dX10_open_10 : decode cX10_open 10 = .ok (.ifnonnull 5, 3) := by decide +kernel
theorem dX10_open_13 : decode cX10_open 13 = .ok (.iconst (-1), 1) := by decide +kernel
theorem dX10_open_14 : decode cX10_open 14 = .ok (.ireturn, 1) := by decide +kernel
theorem dX10_open_15 : decode cX10_open 15 = .ok (.aload_n 2, 1) := by decide +kernel
theorem dX10_open_16 : decode cX10_open 16 = .ok (.getfield 99, 3) := by decide +kernel
theorem dX10_open_19 : decode cX10_open 19 = .ok (.ifCond .eq 6, 3) := by decide +kernel
theorem dX10_open_22 : decode cX10_open 22 = .ok (.bipush (-3), 2) := by decide +kernel
theorem dX10_open_24 : decode cX10_open 24 = .ok (.ireturn, 1) := by decide +kernel
theorem dX10_open_25 : decode cX10_open 25 = .ok (.aload_n 0, 1) := by decide +kernel
theorem dX10_open_26 : decode cX10_open 26 = .ok (.getfield 51, 3) := by decide +kernel
theorem dX10_open_29 : decode cX10_open 29 = .ok (.invokevirtual 104, 3) := by decide +kernel
theorem dX10_open_32 : decode cX10_open 32 = .ok (.ifCond .eq 8, 3) := by decide +kernel
theorem dX10_open_35 : decode cX10_open 35 = .ok (.bipush (-4), 2) := by decide +kernel
theorem dX10_open_37 : decode cX10_open 37 = .ok (.goto 13, 3) := by decide +kernel
theorem dX10_open_40 : decode cX10_open 40 = .ok (.aload_n 0, 1) := by decide +kernel
theorem dX10_open_41 : decode cX10_open 41 = .ok (.getfield 51, 3) := by decide +kernel
theorem dX10_open_44 : decode cX10_open 44 = .ok (.iload_n 1, 1) := by decide +kernel
theorem dX10_open_45 : decode cX10_open 45 = .ok (.bipush (-5), 2) := by decide +kernel
theorem dX10_open_47 : decode cX10_open 47 = .ok (.invokevirtual 108, 3) := by decide +kernel
theorem dX10_open_50 : decode cX10_open 50 = .ok (.ireturn, 1) := by decide +kernel
theorem dX10_take_0 : decode cX10_take 0 = .ok (.aload_n 0, 1) := by decide +kernel
theorem dX10_take_1 : decode cX10_take 1 = .ok (.getfield 51, 3) := by decide +kernel
theorem dX10_take_4 : decode cX10_take 4 = .ok (.iload_n 1, 1) := by decide +kernel
theorem dX10_take_5 : decode cX10_take 5 = .ok (.invokevirtual 95, 3) := by decide +kernel
theorem dX10_take_8 : decode cX10_take 8 = .ok (.astore_n 2, 1) := by decide +kernel
theorem dX10_take_9 : decode cX10_take 9 = .ok (.aload_n 2, 1) := by decide +kernel
theorem dX10_take_10 : decode cX10_take 10 = .ok (.ifnonnull 5, 3) := by decide +kernel
theorem dX10_take_13 : decode cX10_take 13 = .ok (.iconst (-1), 1) := by decide +kernel
theorem dX10_take_14 : decode cX10_take 14 = .ok (.ireturn, 1) := by decide +kernel
theorem dX10_take_15 : decode cX10_take 15 = .ok (.aload_n 2, 1) := by decide +kernel
theorem dX10_take_16 : decode cX10_take 16 = .ok (.getfield 99, 3) := by decide +kernel
theorem dX10_take_19 : decode cX10_take 19 = .ok (.ifCond .eq 6, 3) := by decide +kernel
theorem dX10_take_22 : decode cX10_take 22 = .ok (.bipush (-3), 2) := by decide +kernel
theorem dX10_take_24 : decode cX10_take 24 = .ok (.ireturn, 1) := by decide +kernel
theorem dX10_take_25 : decode cX10_take 25 = .ok (.aload_n 0, 1) := by decide +kernel
theorem dX10_take_26 : decode cX10_take 26 = .ok (.getfield 12, 3) := by decide +kernel
theorem dX10_take_29 : decode cX10_take 29 = .ok (.invokevirtual 112, 3) := by decide +kernel
theorem dX10_take_32 : decode cX10_take 32 = .ok (.astore_n 3, 1) := by decide +kernel
theorem dX10_take_33 : decode cX10_take 33 = .ok (.aload_n 0, 1) := by decide +kernel
theorem dX10_take_34 : decode cX10_take 34 = .ok (.getfield 22, 3) := by decide +kernel
theorem dX10_take_37 : decode cX10_take 37 = .ok (.iconst 0, 1) := by decide +kernel
theorem dX10_take_38 : decode cX10_take 38 = .ok (.putfield 55, 3) := by decide +kernel
theorem dX10_take_41 : decode cX10_take 41 = .ok (.aload_n 3, 1) := by decide +kernel
theorem dX10_take_42 : decode cX10_take 42 = .ok (.ifnonnull 14, 3) := by decide +kernel
theorem dX10_take_45 : decode cX10_take 45 = .ok (.bipush (-100), 2) := by decide +kernel
theorem dX10_take_47 : decode cX10_take 47 = .ok (.aload_n 0, 1) := by decide +kernel
theorem dX10_take_48 : decode cX10_take 48 = .ok (.getfield 12, 3) := by decide +kernel
theorem dX10_take_51 : decode cX10_take 51 = .ok (.getfield 116, 3) := by decide +kernel
theorem dX10_take_54 : decode cX10_take 54 = .ok (.isub, 1) := by decide +kernel
theorem dX10_take_55 : decode cX10_take 55 = .ok (.ireturn, 1) := by decide +kernel
theorem dX10_take_56 : decode cX10_take 56 = .ok (.aload_n 0, 1) := by decide +kernel
theorem dX10_take_57 : decode cX10_take 57 = .ok (.getfield 51, 3) := by decide +kernel
theorem dX10_take_60 : decode cX10_take 60 = .ok (.invokevirtual 119, 3) := by decide +kernel
theorem dX10_take_63 : decode cX10_take 63 = .ok (.ifCond .eq 6, 3) := by decide +kernel
theorem dX10_take_66 : decode cX10_take 66 = .ok (.bipush (-4), 2) := by decide +kernel
theorem dX10_take_68 : decode cX10_take 68 = .ok (.ireturn, 1) := by decide +kernel
theorem dX10_take_69 : decode cX10_take 69 = .ok (.aload_n 0, 1) := by decide +kernel
theorem dX10_take_70 : decode cX10_take 70 = .ok (.getfield 51, 3) := by decide +kernel
theorem dX10_take_73 : decode cX10_take 73 = .ok (.aload_n 3, 1) := by decide +kernel
theorem dX10_take_74 : decode cX10_take 74 = .ok (.getfield 122, 3) := by decide +kernel
theorem dX10_take_77 : decode cX10_take 77 = .ok (.invokevirtual 128, 3) := by decide +kernel
theorem dX10_take_80 : decode cX10_take 80 = .ok (.ifCond .lt 8, 3) := by decide +kernel
theorem dX10_take_83 : decode cX10_take 83 = .ok (.bipush (-3), 2) := by decide +kernel
theorem dX10_take_85 : decode cX10_take 85 = .ok (.goto 12, 3) := by decide +kernel
theorem dX10_take_88 : decode cX10_take 88 = .ok (.aload_n 0, 1) := by decide +kernel
theorem dX10_take_89 : decode cX10_take 89 = .ok (.getfield 51, 3) := by decide +kernel
theorem dX10_take_92 : decode cX10_take 92 = .ok (.aload_n 3, 1) := by decide +kernel
theorem dX10_take_93 : decode cX10_take 93 = .ok (.iload_n 1, 1) := by decide +kernel
theorem dX10_take_94 : decode cX10_take 94 = .ok (.invokevirtual 132, 3) := by decide +kernel
theorem dX10_take_97 : decode cX10_take 97 = .ok (.ireturn, 1) := by decide +kernel
theorem dX10_close_0 : decode cX10_close 0 = .ok (.aload_n 0, 1) := by decide +kernel
theorem dX10_close_1 : decode cX10_close 1 = .ok (.getfield 51, 3) := by decide +kernel
theorem dX10_close_4 : decode cX10_close 4 = .ok (.iload_n 1, 1) := by decide +kernel
theorem dX10_close_5 : decode cX10_close 5 = .ok (.invokevirtual 63, 3) := by decide +kernel
theorem dX10_close_8 : decode cX10_close 8 = .ok (.astore_n 2, 1) := by decide +kernel
theorem dX10_close_9 : decode cX10_close 9 = .ok (.aload_n 2, 1) := by decide +kernel
theorem dX10_close_10 : decode cX10_close 10 = .ok (.ifnonnull 5, 3) := by decide +kernel
theorem dX10_close_13 : decode cX10_close 13 = .ok (.iconst (-1), 1) := by decide +kernel
theorem dX10_close_14 : decode cX10_close 14 = .ok (.ireturn, 1) := by decide +kernel
theorem dX10_close_15 : decode cX10_close 15 = .ok (.aload_n 2, 1) := by decide +kernel
theorem dX10_close_16 : decode cX10_close 16 = .ok (.getfield 136, 3) := by decide +kernel
theorem dX10_close_19 : decode cX10_close 19 = .ok (.ifCond .eq 8, 3) := by decide +kernel
theorem dX10_close_22 : decode cX10_close 22 = .ok (.bipush (-3), 2) := by decide +kernel
theorem dX10_close_24 : decode cX10_close 24 = .ok (.goto 11, 3) := by decide +kernel
theorem dX10_close_27 : decode cX10_close 27 = .ok (.aload_n 0, 1) := by decide +kernel
theorem dX10_close_28 : decode cX10_close 28 = .ok (.getfield 43, 3) := by decide +kernel
theorem dX10_close_31 : decode cX10_close 31 = .ok (.iload_n 1, 1) := by decide +kernel
theorem dX10_close_32 : decode cX10_close 32 = .ok (.invokevirtual 137, 3) := by decide +kernel
theorem dX10_close_35 : decode cX10_close 35 = .ok (.ireturn, 1) := by decide +kernel
theorem dX10_shut_0 : decode cX10_shut 0 = .ok (.aload_n 0, 1) := by decide +kernel
theorem dX10_shut_1 : decode cX10_shut 1 = .ok (.getfield 51, 3) := by decide +kernel
theorem dX10_shut_4 : decode cX10_shut 4 = .ok (.iload_n 1, 1) := by decide +kernel
theorem dX10_shut_5 : decode cX10_shut 5 = .ok (.invokevirtual 95, 3) := by decide +kernel
theorem dX10_shut_8 : decode cX10_shut 8 = .ok (.astore_n 2, 1) := by decide +kernel
theorem dX10_shut_9 : decode cX10_shut 9 = .ok (.aload_n 2, 1) := by decide +kernel
theorem dX10_shut_10 : decode cX10_shut 10 = .ok (.ifnonnull 5, 3) := by decide +kernel
theorem dX10_shut_13 : decode cX10_shut 13 = .ok (.iconst (-1), 1) := by decide +kernel
theorem dX10_shut_14 : decode cX10_shut 14 = .ok (.ireturn, 1) := by decide +kernel
theorem dX10_shut_15 : decode cX10_shut 15 = .ok (.aload_n 2, 1) := by decide +kernel
theorem dX10_shut_16 : decode cX10_shut 16 = .ok (.getfield 99, 3) := by decide +kernel
theorem dX10_shut_19 : decode cX10_shut 19 = .ok (.ifCond .eq 8, 3) := by decide +kernel
theorem dX10_shut_22 : decode cX10_shut 22 = .ok (.bipush (-3), 2) := by decide +kernel
theorem dX10_shut_24 : decode cX10_shut 24 = .ok (.goto 14, 3) := by decide +kernel
theorem dX10_shut_27 : decode cX10_shut 27 = .ok (.aload_n 0, 1) := by decide +kernel
theorem dX10_shut_28 : decode cX10_shut 28 = .ok (.getfield 43, 3) := by decide +kernel
theorem dX10_shut_31 : decode cX10_shut 31 = .ok (.bipush 100, 2) := by decide +kernel
theorem dX10_shut_33 : decode cX10_shut 33 = .ok (.iload_n 1, 1) := by decide +kernel
theorem dX10_shut_34 : decode cX10_shut 34 = .ok (.iadd, 1) := by decide +kernel
theorem dX10_shut_35 : decode cX10_shut 35 = .ok (.invokevirtual 137, 3) := by decide +kernel
theorem dX10_shut_38 : decode cX10_shut 38 = .ok (.ireturn, 1) := by decide +kernel
theorem dX10_move_0 : decode cX10_move 0 = .ok (.aload_n 0, 1) := by decide +kernel
theorem dX10_move_1 : decode cX10_move 1 = .ok (.getfield 51, 3) := by decide +kernel
theorem dX10_move_4 : decode cX10_move 4 = .ok (.iload_n 1, 1) := by decide +kernel
theorem dX10_move_5 : decode cX10_move 5 = .ok (.invokevirtual 63, 3) := by decide +kernel
theorem dX10_move_8 : decode cX10_move 8 = .ok (.astore_n 3, 1) := by decide +kernel
theorem dX10_move_9 : decode cX10_move 9 = .ok (.aload_n 0, 1) := by decide +kernel
theorem dX10_move_10 : decode cX10_move 10 = .ok (.getfield 51, 3) := by decide +kernel
theorem dX10_move_13 : decode cX10_move 13 = .ok (.iload_n 2, 1) := by decide +kernel
theorem dX10_move_14 : decode cX10_move 14 = .ok (.invokevirtual 95, 3) := by decide +kernel
theorem dX10_move_17 : decode cX10_move 17 = .ok (.astore 4, 2) := by decide +kernel
theorem dX10_move_19 : decode cX10_move 19 = .ok (.aload_n 3, 1) := by decide +kernel
theorem dX10_move_20 : decode cX10_move 20 = .ok (.ifnull 8, 3) := by decide +kernel
theorem dX10_move_23 : decode cX10_move 23 = .ok (.aload 4, 2) := by decide +kernel
theorem dX10_move_25 : decode cX10_move 25 = .ok (.ifnonnull 5, 3) := by decide +kernel
theorem dX10_move_28 : decode cX10_move 28 = .ok (.iconst (-1), 1) := by decide +kernel
theorem dX10_move_29 : decode cX10_move 29 = .ok (.ireturn, 1) := by decide +kernel
theorem dX10_move_30 : decode cX10_move 30 = .ok (.aload_n 3, 1) := by decide +kernel
theorem dX10_move_31 : decode cX10_move 31 = .ok (.getfield 136, 3) := by decide +kernel
theorem dX10_move_34 : decode cX10_move 34 = .ok (.ifCond .ne 11, 3) := by decide +kernel
theorem dX10_move_37 : decode cX10_move 37 = .ok (.aload 4, 2) := by decide +kernel
theorem dX10_move_39 : decode cX10_move 39 = .ok (.getfield 99, 3) := by decide +kernel
theorem dX10_move_42 : decode cX10_move 42 = .ok (.ifCond .eq 6, 3) := by decide +kernel
theorem dX10_move_45 : decode cX10_move 45 = .ok (.bipush (-3), 2) := by decide +kernel
theorem dX10_move_47 : decode cX10_move 47 = .ok (.ireturn, 1) := by decide +kernel
theorem dX10_move_48 : decode cX10_move 48 = .ok (.aload_n 0, 1) := by decide +kernel
theorem dX10_move_49 : decode cX10_move 49 = .ok (.getfield 51, 3) := by decide +kernel
theorem dX10_move_52 : decode cX10_move 52 = .ok (.iload_n 1, 1) := by decide +kernel
theorem dX10_move_53 : decode cX10_move 53 = .ok (.iload_n 2, 1) := by decide +kernel
theorem dX10_move_54 : decode cX10_move 54 = .ok (.invokevirtual 140, 3) := by decide +kernel
theorem dX10_move_57 : decode cX10_move 57 = .ok (.aload_n 0, 1) := by decide +kernel
theorem dX10_move_58 : decode cX10_move 58 = .ok (.getfield 51, 3) := by decide +kernel
theorem dX10_move_61 : decode cX10_move 61 = .ok (.iload_n 2, 1) := by decide +kernel
theorem dX10_move_62 : decode cX10_move 62 = .ok (.invokevirtual 144, 3) := by decide +kernel
theorem dX10_move_65 : decode cX10_move 65 = .ok (.ireturn, 1) := by decide +kernel
theorem dX10_count_0 : decode cX10_count 0 = .ok (.aload_n 0, 1) := by decide +kernel
theorem dX10_count_1 : decode cX10_count 1 = .ok (.getfield 51, 3) := by decide +kernel
theorem dX10_count_4 : decode cX10_count 4 = .ok (.getfield 147, 3) := by decide +kernel
theorem dX10_count_7 : decode cX10_count 7 = .ok (.iload_n 1, 1) := by decide +kernel
theorem dX10_count_8 : decode cX10_count 8 = .ok (.invokevirtual 88, 3) := by decide +kernel
theorem dX10_count_11 : decode cX10_count 11 = .ok (.ifCond .ne 5, 3) := by decide +kernel
theorem dX10_count_14 : decode cX10_count 14 = .ok (.iconst (-1), 1) := by decide +kernel
theorem dX10_count_15 : decode cX10_count 15 = .ok (.ireturn, 1) := by decide +kernel
theorem dX10_count_16 : decode cX10_count 16 = .ok (.aload_n 0, 1) := by decide +kernel
theorem dX10_count_17 : decode cX10_count 17 = .ok (.getfield 51, 3) := by decide +kernel
theorem dX10_count_20 : decode cX10_count 20 = .ok (.getfield 147, 3) := by decide +kernel
theorem dX10_count_23 : decode cX10_count 23 = .ok (.iload_n 1, 1) := by decide +kernel
theorem dX10_count_24 : decode cX10_count 24 = .ok (.aload_n 0, 1) := by decide +kernel
theorem dX10_count_25 : decode cX10_count 25 = .ok (.getfield 51, 3) := by decide +kernel
theorem dX10_count_28 : decode cX10_count 28 = .ok (.getfield 147, 3) := by decide +kernel
theorem dX10_count_31 : decode cX10_count 31 = .ok (.iload_n 1, 1) := by decide +kernel
theorem dX10_count_32 : decode cX10_count 32 = .ok (.invokevirtual 91, 3) := by decide +kernel
theorem dX10_count_35 : decode cX10_count 35 = .ok (.iload_n 2, 1) := by decide +kernel
theorem dX10_count_36 : decode cX10_count 36 = .ok (.iadd, 1) := by decide +kernel
theorem dX10_count_37 : decode cX10_count 37 = .ok (.invokevirtual 150, 3) := by decide +kernel
theorem dX10_count_40 : decode cX10_count 40 = .ok (.aload_n 0, 1) := by decide +kernel
theorem dX10_count_41 : decode cX10_count 41 = .ok (.getfield 51, 3) := by decide +kernel
theorem dX10_count_44 : decode cX10_count 44 = .ok (.getfield 147, 3) := by decide +kernel
theorem dX10_count_47 : decode cX10_count 47 = .ok (.iload_n 1, 1) := by decide +kernel
theorem dX10_count_48 : decode cX10_count 48 = .ok (.invokevirtual 91, 3) := by decide +kernel
theorem dX10_count_51 : decode cX10_count 51 = .ok (.ireturn, 1) := by decide +kernel
theorem dX10_counter_0 : decode cX10_counter 0 = .ok (.aload_n 0, 1) := by decide +kernel
theorem dX10_counter_1 : decode cX10_counter 1 = .ok (.getfield 51, 3) := by decide +kernel
theorem dX10_counter_4 : decode cX10_counter 4 = .ok (.getfield 147, 3) := by decide +kernel
theorem dX10_counter_7 : decode cX10_counter 7 = .ok (.iload_n 1, 1) := by decide +kernel
theorem dX10_counter_8 : decode cX10_counter 8 = .ok (.invokevirtual 88, 3) := by decide +kernel
theorem dX10_counter_11 : decode cX10_counter 11 = .ok (.ifCond .eq 18, 3) := by decide +kernel
theorem dX10_counter_14 : decode cX10_counter 14 = .ok (.aload_n 0, 1) := by decide +kernel
theorem dX10_counter_15 : decode cX10_counter 15 = .ok (.getfield 51, 3) := by decide +kernel
theorem dX10_counter_18 : decode cX10_counter 18 = .ok (.getfield 147, 3) := by decide +kernel
theorem dX10_counter_21 : decode cX10_counter 21 = .ok (.iload_n 1, 1) := by decide +kernel
theorem dX10_counter_22 : decode cX10_counter 22 = .ok (.invokevirtual 91, 3) := by decide +kernel
theorem dX10_counter_25 : decode cX10_counter 25 = .ok (.i2l, 1) := by decide +kernel
theorem dX10_counter_26 : decode cX10_counter 26 = .ok (.goto 6, 3) := by decide +kernel
theorem dX10_counter_29 : decode cX10_counter 29 = .ok (.ldc2_w 153, 3) := by decide +kernel
theorem dX10_counter_32 : decode cX10_counter 32 = .ok (.lreturn, 1) := by decide +kernel
theorem dX10_scope_0 : decode cX10_scope 0 = .ok (.aload_n 0, 1) := by decide +kernel
theorem dX10_scope_1 : decode cX10_scope 1 = .ok (.getfield 51, 3) := by decide +kernel
theorem dX10_scope_4 : decode cX10_scope 4 = .ok (.iload_n 1, 1) := by decide +kernel
theorem dX10_scope_5 : decode cX10_scope 5 = .ok (.invokevirtual 95, 3) := by decide +kernel
theorem dX10_scope_8 : decode cX10_scope 8 = .ok (.astore_n 3, 1) := by decide +kernel
theorem dX10_scope_9 : decode cX10_scope 9 = .ok (.aload_n 3, 1) := by decide +kernel
theorem dX10_scope_10 : decode cX10_scope 10 = .ok (.ifnonnull 5, 3) := by decide +kernel
theorem dX10_scope_13 : decode cX10_scope 13 = .ok (.iconst (-1), 1) := by decide +kernel
theorem dX10_scope_14 : decode cX10_scope 14 = .ok (.ireturn, 1) := by decide +kernel
theorem dX10_scope_15 : decode cX10_scope 15 = .ok (.iload_n 2, 1) := by decide +kernel
theorem dX10_scope_16 : decode cX10_scope 16 = .ok (.tableswitch 82 0 5 #[40, 45, 50, 59, 68, 77], 40) := by decide +kernel
theorem dX10_scope_56 : decode cX10_scope 56 = .ok (.aload_n 3, 1) := by decide +kernel
theorem dX10_scope_57 : decode cX10_scope 57 = .ok (.getfield 99, 3) := by decide +kernel
theorem dX10_scope_60 : decode cX10_scope 60 = .ok (.ireturn, 1) := by decide +kernel
theorem dX10_scope_61 : decode cX10_scope 61 = .ok (.aload_n 3, 1) := by decide +kernel
theorem dX10_scope_62 : decode cX10_scope 62 = .ok (.getfield 155, 3) := by decide +kernel
theorem dX10_scope_65 : decode cX10_scope 65 = .ok (.ireturn, 1) := by decide +kernel
theorem dX10_scope_66 : decode cX10_scope 66 = .ok (.aload_n 0, 1) := by decide +kernel
theorem dX10_scope_67 : decode cX10_scope 67 = .ok (.getfield 51, 3) := by decide +kernel
theorem dX10_scope_70 : decode cX10_scope 70 = .ok (.iload_n 1, 1) := by decide +kernel
theorem dX10_scope_71 : decode cX10_scope 71 = .ok (.invokevirtual 144, 3) := by decide +kernel
theorem dX10_scope_74 : decode cX10_scope 74 = .ok (.ireturn, 1) := by decide +kernel
theorem dX10_scope_75 : decode cX10_scope 75 = .ok (.aload_n 0, 1) := by decide +kernel
theorem dX10_scope_76 : decode cX10_scope 76 = .ok (.getfield 51, 3) := by decide +kernel
theorem dX10_scope_79 : decode cX10_scope 79 = .ok (.iload_n 1, 1) := by decide +kernel
theorem dX10_scope_80 : decode cX10_scope 80 = .ok (.invokevirtual 158, 3) := by decide +kernel
theorem dX10_scope_83 : decode cX10_scope 83 = .ok (.ireturn, 1) := by decide +kernel
theorem dX10_scope_84 : decode cX10_scope 84 = .ok (.aload_n 0, 1) := by decide +kernel
theorem dX10_scope_85 : decode cX10_scope 85 = .ok (.getfield 51, 3) := by decide +kernel
theorem dX10_scope_88 : decode cX10_scope 88 = .ok (.iload_n 1, 1) := by decide +kernel
theorem dX10_scope_89 : decode cX10_scope 89 = .ok (.invokevirtual 161, 3) := by decide +kernel
theorem dX10_scope_92 : decode cX10_scope 92 = .ok (.ireturn, 1) := by decide +kernel
theorem dX10_scope_93 : decode cX10_scope 93 = .ok (.aload_n 3, 1) := by decide +kernel
theorem dX10_scope_94 : decode cX10_scope 94 = .ok (.getfield 164, 3) := by decide +kernel
theorem dX10_scope_97 : decode cX10_scope 97 = .ok (.ireturn, 1) := by decide +kernel
theorem dX10_scope_98 : decode cX10_scope 98 = .ok (.iconst (-1), 1) := by decide +kernel
theorem dX10_scope_99 : decode cX10_scope 99 = .ok (.ireturn, 1) := by decide +kernel
theorem dX10_below_0 : decode cX10_below 0 = .ok (.aload_n 0, 1) := by decide +kernel
theorem dX10_below_1 : decode cX10_below 1 = .ok (.getfield 51, 3) := by decide +kernel
theorem dX10_below_4 : decode cX10_below 4 = .ok (.iload_n 1, 1) := by decide +kernel
theorem dX10_below_5 : decode cX10_below 5 = .ok (.invokevirtual 95, 3) := by decide +kernel
theorem dX10_below_8 : decode cX10_below 8 = .ok (.ifnull 14, 3) := by decide +kernel
theorem dX10_below_11 : decode cX10_below 11 = .ok (.aload_n 0, 1) := by decide +kernel
theorem dX10_below_12 : decode cX10_below 12 = .ok (.getfield 51, 3) := by decide +kernel
theorem dX10_below_15 : decode cX10_below 15 = .ok (.iload_n 2, 1) := by decide +kernel
theorem dX10_below_16 : decode cX10_below 16 = .ok (.invokevirtual 95, 3) := by decide +kernel
theorem dX10_below_19 : decode cX10_below 19 = .ok (.ifnonnull 5, 3) := by decide +kernel
theorem dX10_below_22 : decode cX10_below 22 = .ok (.iconst (-1), 1) := by decide +kernel
theorem dX10_below_23 : decode cX10_below 23 = .ok (.ireturn, 1) := by decide +kernel
theorem dX10_below_24 : decode cX10_below 24 = .ok (.aload_n 0, 1) := by decide +kernel
theorem dX10_below_25 : decode cX10_below 25 = .ok (.getfield 51, 3) := by decide +kernel
theorem dX10_below_28 : decode cX10_below 28 = .ok (.iload_n 1, 1) := by decide +kernel
theorem dX10_below_29 : decode cX10_below 29 = .ok (.iload_n 2, 1) := by decide +kernel
theorem dX10_below_30 : decode cX10_below 30 = .ok (.invokevirtual 167, 3) := by decide +kernel
theorem dX10_below_33 : decode cX10_below 33 = .ok (.ifCond .eq 7, 3) := by decide +kernel
theorem dX10_below_36 : decode cX10_below 36 = .ok (.iconst 1, 1) := by decide +kernel
theorem dX10_below_37 : decode cX10_below 37 = .ok (.goto 4, 3) := by decide +kernel
theorem dX10_below_40 : decode cX10_below 40 = .ok (.iconst 0, 1) := by decide +kernel
theorem dX10_below_41 : decode cX10_below 41 = .ok (.ireturn, 1) := by decide +kernel
theorem dX10_youngest_0 : decode cX10_youngest 0 = .ok (.aload_n 0, 1) := by decide +kernel
theorem dX10_youngest_1 : decode cX10_youngest 1 = .ok (.getfield 51, 3) := by decide +kernel
theorem dX10_youngest_4 : decode cX10_youngest 4 = .ok (.iload_n 1, 1) := by decide +kernel
theorem dX10_youngest_5 : decode cX10_youngest 5 = .ok (.invokevirtual 95, 3) := by decide +kernel
theorem dX10_youngest_8 : decode cX10_youngest 8 = .ok (.ifnonnull 7, 3) := by decide +kernel
theorem dX10_youngest_11 : decode cX10_youngest 11 = .ok (.iconst (-1), 1) := by decide +kernel
theorem dX10_youngest_12 : decode cX10_youngest 12 = .ok (.goto 11, 3) := by decide +kernel
theorem dX10_youngest_15 : decode cX10_youngest 15 = .ok (.aload_n 0, 1) := by decide +kernel
theorem dX10_youngest_16 : decode cX10_youngest 16 = .ok (.getfield 51, 3) := by decide +kernel
theorem dX10_youngest_19 : decode cX10_youngest 19 = .ok (.iload_n 1, 1) := by decide +kernel
theorem dX10_youngest_20 : decode cX10_youngest 20 = .ok (.invokevirtual 171, 3) := by decide +kernel
theorem dX10_youngest_23 : decode cX10_youngest 23 = .ok (.ireturn, 1) := by decide +kernel
theorem dX10_entry_0 : decode cX10_entry 0 = .ok (.aload_n 0, 1) := by decide +kernel
theorem dX10_entry_1 : decode cX10_entry 1 = .ok (.getfield 51, 3) := by decide +kernel
theorem dX10_entry_4 : decode cX10_entry 4 = .ok (.iload_n 1, 1) := by decide +kernel
theorem dX10_entry_5 : decode cX10_entry 5 = .ok (.invokevirtual 95, 3) := by decide +kernel
theorem dX10_entry_8 : decode cX10_entry 8 = .ok (.ifnonnull 7, 3) := by decide +kernel
theorem dX10_entry_11 : decode cX10_entry 11 = .ok (.iconst (-1), 1) := by decide +kernel
theorem dX10_entry_12 : decode cX10_entry 12 = .ok (.goto 12, 3) := by decide +kernel
theorem dX10_entry_15 : decode cX10_entry 15 = .ok (.aload_n 0, 1) := by decide +kernel
theorem dX10_entry_16 : decode cX10_entry 16 = .ok (.getfield 51, 3) := by decide +kernel
theorem dX10_entry_19 : decode cX10_entry 19 = .ok (.iload_n 1, 1) := by decide +kernel
theorem dX10_entry_20 : decode cX10_entry 20 = .ok (.iload_n 2, 1) := by decide +kernel
theorem dX10_entry_21 : decode cX10_entry 21 = .ok (.invokevirtual 174, 3) := by decide +kernel
theorem dX10_entry_24 : decode cX10_entry 24 = .ok (.ireturn, 1) := by decide +kernel
theorem dX10_thing_0 : decode cX10_thing 0 = .ok (.aload_n 0, 1) := by decide +kernel
theorem dX10_thing_1 : decode cX10_thing 1 = .ok (.getfield 51, 3) := by decide +kernel
theorem dX10_thing_4 : decode cX10_thing 4 = .ok (.iload_n 1, 1) := by decide +kernel
theorem dX10_thing_5 : decode cX10_thing 5 = .ok (.invokevirtual 63, 3) := by decide +kernel
theorem dX10_thing_8 : decode cX10_thing 8 = .ok (.astore_n 3, 1) := by decide +kernel
theorem dX10_thing_9 : decode cX10_thing 9 = .ok (.aload_n 3, 1) := by decide +kernel
theorem dX10_thing_10 : decode cX10_thing 10 = .ok (.ifnonnull 5, 3) := by decide +kernel
theorem dX10_thing_13 : decode cX10_thing 13 = .ok (.iconst (-1), 1) := by decide +kernel
theorem dX10_thing_14 : decode cX10_thing 14 = .ok (.ireturn, 1) := by decide +kernel
theorem dX10_thing_15 : decode cX10_thing 15 = .ok (.iload_n 2, 1) := by decide +kernel
theorem dX10_thing_16 : decode cX10_thing 16 = .ok (.tableswitch 55 0 3 #[32, 37, 42, 47], 32) := by decide +kernel
theorem dX10_thing_48 : decode cX10_thing 48 = .ok (.aload_n 3, 1) := by decide +kernel
theorem dX10_thing_49 : decode cX10_thing 49 = .ok (.getfield 136, 3) := by decide +kernel
theorem dX10_thing_52 : decode cX10_thing 52 = .ok (.ireturn, 1) := by decide +kernel
theorem dX10_thing_53 : decode cX10_thing 53 = .ok (.aload_n 3, 1) := by decide +kernel
theorem dX10_thing_54 : decode cX10_thing 54 = .ok (.getfield 177, 3) := by decide +kernel
theorem dX10_thing_57 : decode cX10_thing 57 = .ok (.ireturn, 1) := by decide +kernel
theorem dX10_thing_58 : decode cX10_thing 58 = .ok (.aload_n 3, 1) := by decide +kernel
theorem dX10_thing_59 : decode cX10_thing 59 = .ok (.getfield 180, 3) := by decide +kernel
theorem dX10_thing_62 : decode cX10_thing 62 = .ok (.ireturn, 1) := by decide +kernel
theorem dX10_thing_63 : decode cX10_thing 63 = .ok (.aload_n 3, 1) := by decide +kernel
theorem dX10_thing_64 : decode cX10_thing 64 = .ok (.getfield 69, 3) := by decide +kernel
theorem dX10_thing_67 : decode cX10_thing 67 = .ok (.invokestatic 183, 3) := by decide +kernel
theorem dX10_thing_70 : decode cX10_thing 70 = .ok (.ireturn, 1) := by decide +kernel
theorem dX10_thing_71 : decode cX10_thing 71 = .ok (.iconst (-1), 1) := by decide +kernel
theorem dX10_thing_72 : decode cX10_thing 72 = .ok (.ireturn, 1) := by decide +kernel
theorem dX10_name_0 : decode cX10_name 0 = .ok (.aload_n 0, 1) := by decide +kernel
theorem dX10_name_1 : decode cX10_name 1 = .ok (.getfield 51, 3) := by decide +kernel
theorem dX10_name_4 : decode cX10_name 4 = .ok (.iload_n 1, 1) := by decide +kernel
theorem dX10_name_5 : decode cX10_name 5 = .ok (.invokevirtual 63, 3) := by decide +kernel
theorem dX10_name_8 : decode cX10_name 8 = .ok (.astore_n 3, 1) := by decide +kernel
theorem dX10_name_9 : decode cX10_name 9 = .ok (.aload_n 3, 1) := by decide +kernel
theorem dX10_name_10 : decode cX10_name 10 = .ok (.ifnonnull 5, 3) := by decide +kernel
theorem dX10_name_13 : decode cX10_name 13 = .ok (.iconst (-1), 1) := by decide +kernel
theorem dX10_name_14 : decode cX10_name 14 = .ok (.ireturn, 1) := by decide +kernel
theorem dX10_name_15 : decode cX10_name 15 = .ok (.iload_n 2, 1) := by decide +kernel
theorem dX10_name_16 : decode cX10_name 16 = .ok (.iconst (-1), 1) := by decide +kernel
theorem dX10_name_17 : decode cX10_name 17 = .ok (.if_icmp .ne 11, 3) := by decide +kernel
theorem dX10_name_20 : decode cX10_name 20 = .ok (.aload_n 3, 1) := by decide +kernel
theorem dX10_name_21 : decode cX10_name 21 = .ok (.getfield 186, 3) := by decide +kernel
theorem dX10_name_24 : decode cX10_name 24 = .ok (.invokestatic 187, 3) := by decide +kernel
theorem dX10_name_27 : decode cX10_name 27 = .ok (.ireturn, 1) := by decide +kernel
theorem dX10_name_28 : decode cX10_name 28 = .ok (.aload_n 3, 1) := by decide +kernel
theorem dX10_name_29 : decode cX10_name 29 = .ok (.getfield 186, 3) := by decide +kernel
theorem dX10_name_32 : decode cX10_name 32 = .ok (.iload_n 2, 1) := by decide +kernel
theorem dX10_name_33 : decode cX10_name 33 = .ok (.invokestatic 190, 3) := by decide +kernel
theorem dX10_name_36 : decode cX10_name 36 = .ok (.istore 4, 2) := by decide +kernel
theorem dX10_name_38 : decode cX10_name 38 = .ok (.iload 4, 2) := by decide +kernel
theorem dX10_name_40 : decode cX10_name 40 = .ok (.ifCond .ne 7, 3) := by decide +kernel
theorem dX10_name_43 : decode cX10_name 43 = .ok (.iconst (-1), 1) := by decide +kernel
theorem dX10_name_44 : decode cX10_name 44 = .ok (.goto 5, 3) := by decide +kernel
theorem dX10_name_47 : decode cX10_name 47 = .ok (.iload 4, 2) := by decide +kernel
theorem dX10_name_49 : decode cX10_name 49 = .ok (.ireturn, 1) := by decide +kernel
theorem dX10_find_0 : decode cX10_find 0 = .ok (.aload_n 0, 1) := by decide +kernel
theorem dX10_find_1 : decode cX10_find 1 = .ok (.getfield 12, 3) := by decide +kernel
theorem dX10_find_4 : decode cX10_find 4 = .ok (.invokevirtual 194, 3) := by decide +kernel
theorem dX10_find_7 : decode cX10_find 7 = .ok (.lstore_n 1, 1) := by decide +kernel
theorem dX10_find_8 : decode cX10_find 8 = .ok (.aload_n 0, 1) := by decide +kernel
theorem dX10_find_9 : decode cX10_find 9 = .ok (.getfield 22, 3) := by decide +kernel
theorem dX10_find_12 : decode cX10_find 12 = .ok (.iconst 0, 1) := by decide +kernel
theorem dX10_find_13 : decode cX10_find 13 = .ok (.putfield 55, 3) := by decide +kernel
theorem dX10_find_16 : decode cX10_find 16 = .ok (.aload_n 0, 1) := by decide +kernel
theorem dX10_find_17 : decode cX10_find 17 = .ok (.getfield 12, 3) := by decide +kernel
theorem dX10_find_20 : decode cX10_find 20 = .ok (.getfield 116, 3) := by decide +kernel
theorem dX10_find_23 : decode cX10_find 23 = .ok (.ifCond .lt 8, 3) := by decide +kernel
theorem dX10_find_26 : decode cX10_find 26 = .ok (.bipush (-5), 2) := by decide +kernel
theorem dX10_find_28 : decode cX10_find 28 = .ok (.goto 11, 3) := by decide +kernel
theorem dX10_find_31 : decode cX10_find 31 = .ok (.aload_n 0, 1) := by decide +kernel
theorem dX10_find_32 : decode cX10_find 32 = .ok (.getfield 51, 3) := by decide +kernel
theorem dX10_find_35 : decode cX10_find 35 = .ok (.lload_n 1, 1) := by decide +kernel
theorem dX10_find_36 : decode cX10_find 36 = .ok (.invokevirtual 128, 3) := by decide +kernel
theorem dX10_find_39 : decode cX10_find 39 = .ok (.ireturn, 1) := by decide +kernel
theorem dX10_from_0 : decode cX10_from 0 = .ok (.aload_n 0, 1) := by decide +kernel
theorem dX10_from_1 : decode cX10_from 1 = .ok (.getfield 51, 3) := by decide +kernel
theorem dX10_from_4 : decode cX10_from 4 = .ok (.aload_n 0, 1) := by decide +kernel
theorem dX10_from_5 : decode cX10_from 5 = .ok (.getfield 22, 3) := by decide +kernel
theorem dX10_from_8 : decode cX10_from 8 = .ok (.invokevirtual 198, 3) := by decide +kernel
theorem dX10_from_11 : decode cX10_from 11 = .ok (.istore_n 1, 1) := by decide +kernel
theorem dX10_from_12 : decode cX10_from 12 = .ok (.aload_n 0, 1) := by decide +kernel
theorem dX10_from_13 : decode cX10_from 13 = .ok (.getfield 22, 3) := by decide +kernel
theorem dX10_from_16 : decode cX10_from 16 = .ok (.iconst 0, 1) := by decide +kernel
theorem dX10_from_17 : decode cX10_from 17 = .ok (.putfield 55, 3) := by decide +kernel
theorem dX10_from_20 : decode cX10_from 20 = .ok (.iload_n 1, 1) := by decide +kernel
theorem dX10_from_21 : decode cX10_from 21 = .ok (.ireturn, 1) := by decide +kernel
theorem dX10_rename_0 : decode cX10_rename 0 = .ok (.aload_n 0, 1) := by decide +kernel
theorem dX10_rename_1 : decode cX10_rename 1 = .ok (.getfield 51, 3) := by decide +kernel
theorem dX10_rename_4 : decode cX10_rename 4 = .ok (.iload_n 1, 1) := by decide +kernel
theorem dX10_rename_5 : decode cX10_rename 5 = .ok (.invokevirtual 63, 3) := by decide +kernel
theorem dX10_rename_8 : decode cX10_rename 8 = .ok (.astore_n 2, 1) := by decide +kernel
theorem dX10_rename_9 : decode cX10_rename 9 = .ok (.aload_n 2, 1) := by decide +kernel
theorem dX10_rename_10 : decode cX10_rename 10 = .ok (.ifnonnull 5, 3) := by decide +kernel
theorem dX10_rename_13 : decode cX10_rename 13 = .ok (.iconst (-1), 1) := by decide +kernel
theorem dX10_rename_14 : decode cX10_rename 14 = .ok (.ireturn, 1) := by decide +kernel
theorem dX10_rename_15 : decode cX10_rename 15 = .ok (.aload_n 2, 1) := by decide +kernel
theorem dX10_rename_16 : decode cX10_rename 16 = .ok (.getfield 136, 3) := by decide +kernel
theorem dX10_rename_19 : decode cX10_rename 19 = .ok (.ifCond .eq 6, 3) := by decide +kernel
theorem dX10_rename_22 : decode cX10_rename 22 = .ok (.bipush (-3), 2) := by decide +kernel
theorem dX10_rename_24 : decode cX10_rename 24 = .ok (.ireturn, 1) := by decide +kernel
theorem dX10_rename_25 : decode cX10_rename 25 = .ok (.aload_n 0, 1) := by decide +kernel
theorem dX10_rename_26 : decode cX10_rename 26 = .ok (.getfield 12, 3) := by decide +kernel
theorem dX10_rename_29 : decode cX10_rename 29 = .ok (.invokevirtual 194, 3) := by decide +kernel
theorem dX10_rename_32 : decode cX10_rename 32 = .ok (.lstore_n 3, 1) := by decide +kernel
theorem dX10_rename_33 : decode cX10_rename 33 = .ok (.aload_n 0, 1) := by decide +kernel
theorem dX10_rename_34 : decode cX10_rename 34 = .ok (.getfield 22, 3) := by decide +kernel
theorem dX10_rename_37 : decode cX10_rename 37 = .ok (.iconst 0, 1) := by decide +kernel
theorem dX10_rename_38 : decode cX10_rename 38 = .ok (.putfield 55, 3) := by decide +kernel
theorem dX10_rename_41 : decode cX10_rename 41 = .ok (.aload_n 0, 1) := by decide +kernel
theorem dX10_rename_42 : decode cX10_rename 42 = .ok (.getfield 12, 3) := by decide +kernel
theorem dX10_rename_45 : decode cX10_rename 45 = .ok (.getfield 116, 3) := by decide +kernel
theorem dX10_rename_48 : decode cX10_rename 48 = .ok (.ifCond .lt 14, 3) := by decide +kernel
theorem dX10_rename_51 : decode cX10_rename 51 = .ok (.bipush (-100), 2) := by decide +kernel
theorem dX10_rename_53 : decode cX10_rename 53 = .ok (.aload_n 0, 1) := by decide +kernel
theorem dX10_rename_54 : decode cX10_rename 54 = .ok (.getfield 12, 3) := by decide +kernel
theorem dX10_rename_57 : decode cX10_rename 57 = .ok (.getfield 116, 3) := by decide +kernel
theorem dX10_rename_60 : decode cX10_rename 60 = .ok (.isub, 1) := by decide +kernel
theorem dX10_rename_61 : decode cX10_rename 61 = .ok (.ireturn, 1) := by decide +kernel
theorem dX10_rename_62 : decode cX10_rename 62 = .ok (.aload_n 0, 1) := by decide +kernel
theorem dX10_rename_63 : decode cX10_rename 63 = .ok (.getfield 51, 3) := by decide +kernel
theorem dX10_rename_66 : decode cX10_rename 66 = .ok (.lload_n 3, 1) := by decide +kernel
theorem dX10_rename_67 : decode cX10_rename 67 = .ok (.invokevirtual 128, 3) := by decide +kernel
theorem dX10_rename_70 : decode cX10_rename 70 = .ok (.ifCond .lt 6, 3) := by decide +kernel
theorem dX10_rename_73 : decode cX10_rename 73 = .ok (.bipush (-3), 2) := by decide +kernel
theorem dX10_rename_75 : decode cX10_rename 75 = .ok (.ireturn, 1) := by decide +kernel
theorem dX10_rename_76 : decode cX10_rename 76 = .ok (.aload_n 2, 1) := by decide +kernel
theorem dX10_rename_77 : decode cX10_rename 77 = .ok (.lload_n 3, 1) := by decide +kernel
theorem dX10_rename_78 : decode cX10_rename 78 = .ok (.putfield 186, 3) := by decide +kernel
theorem dX10_rename_81 : decode cX10_rename 81 = .ok (.lload_n 3, 1) := by decide +kernel
theorem dX10_rename_82 : decode cX10_rename 82 = .ok (.invokestatic 187, 3) := by decide +kernel
theorem dX10_rename_85 : decode cX10_rename 85 = .ok (.ireturn, 1) := by decide +kernel
theorem dX10_byName_0 : decode cX10_byName 0 = .ok (.aload_n 0, 1) := by decide +kernel
theorem dX10_byName_1 : decode cX10_byName 1 = .ok (.getfield 51, 3) := by decide +kernel
theorem dX10_byName_4 : decode cX10_byName 4 = .ok (.iload_n 1, 1) := by decide +kernel
theorem dX10_byName_5 : decode cX10_byName 5 = .ok (.invokevirtual 202, 3) := by decide +kernel
theorem dX10_byName_8 : decode cX10_byName 8 = .ok (.ireturn, 1) := by decide +kernel
theorem dX10_plan_0 : decode cX10_plan 0 = .ok (.aload_n 0, 1) := by decide +kernel
theorem dX10_plan_1 : decode cX10_plan 1 = .ok (.getfield 51, 3) := by decide +kernel
theorem dX10_plan_4 : decode cX10_plan 4 = .ok (.iload_n 1, 1) := by decide +kernel
theorem dX10_plan_5 : decode cX10_plan 5 = .ok (.invokevirtual 95, 3) := by decide +kernel
theorem dX10_plan_8 : decode cX10_plan 8 = .ok (.ifnonnull 7, 3) := by decide +kernel
theorem dX10_plan_11 : decode cX10_plan 11 = .ok (.iconst (-1), 1) := by decide +kernel
theorem dX10_plan_12 : decode cX10_plan 12 = .ok (.goto 12, 3) := by decide +kernel
theorem dX10_plan_15 : decode cX10_plan 15 = .ok (.aload_n 0, 1) := by decide +kernel
theorem dX10_plan_16 : decode cX10_plan 16 = .ok (.getfield 51, 3) := by decide +kernel
theorem dX10_plan_19 : decode cX10_plan 19 = .ok (.iload_n 1, 1) := by decide +kernel
theorem dX10_plan_20 : decode cX10_plan 20 = .ok (.iload_n 2, 1) := by decide +kernel
theorem dX10_plan_21 : decode cX10_plan 21 = .ok (.invokevirtual 205, 3) := by decide +kernel
theorem dX10_plan_24 : decode cX10_plan 24 = .ok (.ireturn, 1) := by decide +kernel
theorem dX10_would_0 : decode cX10_would 0 = .ok (.aload_n 0, 1) := by decide +kernel
theorem dX10_would_1 : decode cX10_would 1 = .ok (.getfield 51, 3) := by decide +kernel
theorem dX10_would_4 : decode cX10_would 4 = .ok (.iload_n 1, 1) := by decide +kernel
theorem dX10_would_5 : decode cX10_would 5 = .ok (.invokevirtual 95, 3) := by decide +kernel
theorem dX10_would_8 : decode cX10_would 8 = .ok (.astore_n 3, 1) := by decide +kernel
theorem dX10_would_9 : decode cX10_would 9 = .ok (.aload_n 3, 1) := by decide +kernel
theorem dX10_would_10 : decode cX10_would 10 = .ok (.ifnull 12, 3) := by decide +kernel
theorem dX10_would_13 : decode cX10_would 13 = .ok (.iload_n 2, 1) := by decide +kernel
theorem dX10_would_14 : decode cX10_would 14 = .ok (.ifCond .lt 8, 3) := by decide +kernel
theorem dX10_would_17 : decode cX10_would 17 = .ok (.iload_n 2, 1) := by decide +kernel
theorem dX10_would_18 : decode cX10_would 18 = .ok (.iconst 5, 1) := by decide +kernel
theorem dX10_would_19 : decode cX10_would 19 = .ok (.if_icmp .le 5, 3) := by decide +kernel
theorem dX10_would_22 : decode cX10_would 22 = .ok (.iconst (-1), 1) := by decide +kernel
theorem dX10_would_23 : decode cX10_would 23 = .ok (.ireturn, 1) := by decide +kernel
theorem dX10_would_24 : decode cX10_would 24 = .ok (.aload_n 3, 1) := by decide +kernel
theorem dX10_would_25 : decode cX10_would 25 = .ok (.getfield 99, 3) := by decide +kernel
theorem dX10_would_28 : decode cX10_would 28 = .ok (.ifCond .eq 6, 3) := by decide +kernel
theorem dX10_would_31 : decode cX10_would 31 = .ok (.bipush (-3), 2) := by decide +kernel
theorem dX10_would_33 : decode cX10_would 33 = .ok (.ireturn, 1) := by decide +kernel
theorem dX10_would_34 : decode cX10_would 34 = .ok (.aload_n 0, 1) := by decide +kernel
theorem dX10_would_35 : decode cX10_would 35 = .ok (.invokevirtual 208, 3) := by decide +kernel
theorem dX10_would_38 : decode cX10_would 38 = .ok (.astore 4, 2) := by decide +kernel
theorem dX10_would_40 : decode cX10_would 40 = .ok (.aload 4, 2) := by decide +kernel
theorem dX10_would_42 : decode cX10_would 42 = .ok (.getfield 47, 3) := by decide +kernel
theorem dX10_would_45 : decode cX10_would 45 = .ok (.astore 5, 2) := by decide +kernel
theorem dX10_would_47 : decode cX10_would 47 = .ok (.aload 4, 2) := by decide +kernel
theorem dX10_would_49 : decode cX10_would 49 = .ok (.bipush 100, 2) := by decide +kernel
theorem dX10_would_51 : decode cX10_would 51 = .ok (.iload_n 1, 1) := by decide +kernel
theorem dX10_would_52 : decode cX10_would 52 = .ok (.iadd, 1) := by decide +kernel
theorem dX10_would_53 : decode cX10_would 53 = .ok (.invokevirtual 137, 3) := by decide +kernel
theorem dX10_would_56 : decode cX10_would 56 = .ok (.istore 6, 2) := by decide +kernel
theorem dX10_would_58 : decode cX10_would 58 = .ok (.iload_n 2, 1) := by decide +kernel
theorem dX10_would_59 : decode cX10_would 59 = .ok (.tableswitch 86 0 4 #[33, 36, 44, 52, 72], 33) := by decide +kernel
theorem dX10_would_92 : decode cX10_would 92 = .ok (.iload 6, 2) := by decide +kernel
theorem dX10_would_94 : decode cX10_would 94 = .ok (.ireturn, 1) := by decide +kernel
theorem dX10_would_95 : decode cX10_would 95 = .ok (.aload 5, 2) := by decide +kernel
theorem dX10_would_97 : decode cX10_would 97 = .ok (.iconst (-1), 1) := by decide +kernel
theorem dX10_would_98 : decode cX10_would 98 = .ok (.iconst 0, 1) := by decide +kernel
theorem dX10_would_99 : decode cX10_would 99 = .ok (.invokevirtual 212, 3) := by decide +kernel
theorem dX10_would_102 : decode cX10_would 102 = .ok (.ireturn, 1) := by decide +kernel
theorem dX10_would_103 : decode cX10_would 103 = .ok (.aload 5, 2) := by decide +kernel
theorem dX10_would_105 : decode cX10_would 105 = .ok (.iconst (-1), 1) := by decide +kernel
theorem dX10_would_106 : decode cX10_would 106 = .ok (.iconst 0, 1) := by decide +kernel
theorem dX10_would_107 : decode cX10_would 107 = .ok (.invokevirtual 215, 3) := by decide +kernel
theorem dX10_would_110 : decode cX10_would 110 = .ok (.ireturn, 1) := by decide +kernel
theorem dX10_would_111 : decode cX10_would 111 = .ok (.aload 5, 2) := by decide +kernel
theorem dX10_would_113 : decode cX10_would 113 = .ok (.getfield 218, 3) := by decide +kernel
theorem dX10_would_116 : decode cX10_would 116 = .ok (.getfield 55, 3) := by decide +kernel
theorem dX10_would_119 : decode cX10_would 119 = .ok (.aload_n 0, 1) := by decide +kernel
theorem dX10_would_120 : decode cX10_would 120 = .ok (.getfield 51, 3) := by decide +kernel
theorem dX10_would_123 : decode cX10_would 123 = .ok (.getfield 218, 3) := by decide +kernel
theorem dX10_would_126 : decode cX10_would 126 = .ok (.getfield 55, 3) := by decide +kernel
theorem dX10_would_129 : decode cX10_would 129 = .ok (.isub, 1) := by decide +kernel
theorem dX10_would_130 : decode cX10_would 130 = .ok (.ireturn, 1) := by decide +kernel
theorem dX10_would_131 : decode cX10_would 131 = .ok (.aload 5, 2) := by decide +kernel
theorem dX10_would_133 : decode cX10_would 133 = .ok (.getfield 221, 3) := by decide +kernel
theorem dX10_would_136 : decode cX10_would 136 = .ok (.aload_n 0, 1) := by decide +kernel
theorem dX10_would_137 : decode cX10_would 137 = .ok (.getfield 51, 3) := by decide +kernel
theorem dX10_would_140 : decode cX10_would 140 = .ok (.getfield 221, 3) := by decide +kernel
theorem dX10_would_143 : decode cX10_would 143 = .ok (.isub, 1) := by decide +kernel
theorem dX10_would_144 : decode cX10_would 144 = .ok (.ireturn, 1) := by decide +kernel
theorem dX10_would_145 : decode cX10_would 145 = .ok (.aload 5, 2) := by decide +kernel
theorem dX10_would_147 : decode cX10_would 147 = .ok (.iconst 0, 1) := by decide +kernel
theorem dX10_would_148 : decode cX10_would 148 = .ok (.invokevirtual 158, 3) := by decide +kernel
theorem dX10_would_151 : decode cX10_would 151 = .ok (.ireturn, 1) := by decide +kernel
theorem dX10_trial_0 : decode cX10_trial 0 = .ok (.aload_n 0, 1) := by decide +kernel
theorem dX10_trial_1 : decode cX10_trial 1 = .ok (.getfield 51, 3) := by decide +kernel
theorem dX10_trial_4 : decode cX10_trial 4 = .ok (.iload_n 1, 1) := by decide +kernel
theorem dX10_trial_5 : decode cX10_trial 5 = .ok (.invokevirtual 79, 3) := by decide +kernel
theorem dX10_trial_8 : decode cX10_trial 8 = .ok (.ifnull 12, 3) := by decide +kernel
theorem dX10_trial_11 : decode cX10_trial 11 = .ok (.iload_n 3, 1) := by decide +kernel
theorem dX10_trial_12 : decode cX10_trial 12 = .ok (.ifCond .lt 8, 3) := by decide +kernel
theorem dX10_trial_15 : decode cX10_trial 15 = .ok (.iload_n 3, 1) := by decide +kernel
theorem dX10_trial_16 : decode cX10_trial 16 = .ok (.iconst 5, 1) := by decide +kernel
theorem dX10_trial_17 : decode cX10_trial 17 = .ok (.if_icmp .le 5, 3) := by decide +kernel
theorem dX10_trial_20 : decode cX10_trial 20 = .ok (.iconst (-1), 1) := by decide +kernel
theorem dX10_trial_21 : decode cX10_trial 21 = .ok (.ireturn, 1) := by decide +kernel
theorem dX10_trial_22 : decode cX10_trial 22 = .ok (.iload_n 2, 1) := by decide +kernel
theorem dX10_trial_23 : decode cX10_trial 23 = .ok (.ifCond .lt 9, 3) := by decide +kernel
theorem dX10_trial_26 : decode cX10_trial 26 = .ok (.iload_n 2, 1) := by decide +kernel
theorem dX10_trial_27 : decode cX10_trial 27 = .ok (.bipush 100, 2) := by decide +kernel
theorem dX10_trial_29 : decode cX10_trial 29 = .ok (.if_icmp .le 6, 3) := by decide +kernel
theorem dX10_trial_32 : decode cX10_trial 32 = .ok (.bipush (-2), 2) := by decide +kernel
theorem dX10_trial_34 : decode cX10_trial 34 = .ok (.ireturn, 1) := by decide +kernel
theorem dX10_trial_35 : decode cX10_trial 35 = .ok (.aload_n 0, 1) := by decide +kernel
theorem dX10_trial_36 : decode cX10_trial 36 = .ok (.invokevirtual 208, 3) := by decide +kernel
theorem dX10_trial_39 : decode cX10_trial 39 = .ok (.astore 4, 2) := by decide +kernel
theorem dX10_trial_41 : decode cX10_trial 41 = .ok (.aload 4, 2) := by decide +kernel
theorem dX10_trial_43 : decode cX10_trial 43 = .ok (.getfield 47, 3) := by decide +kernel
theorem dX10_trial_46 : decode cX10_trial 46 = .ok (.astore 5, 2) := by decide +kernel
theorem dX10_trial_48 : decode cX10_trial 48 = .ok (.aload 4, 2) := by decide +kernel
theorem dX10_trial_50 : decode cX10_trial 50 = .ok (.iload_n 2, 1) := by decide +kernel
theorem dX10_trial_51 : decode cX10_trial 51 = .ok (.invokevirtual 224, 3) := by decide +kernel
theorem dX10_trial_54 : decode cX10_trial 54 = .ok (.pop, 1) := by decide +kernel
theorem dX10_trial_55 : decode cX10_trial 55 = .ok (.aload 5, 2) := by decide +kernel
theorem dX10_trial_57 : decode cX10_trial 57 = .ok (.iload_n 1, 1) := by decide +kernel
theorem dX10_trial_58 : decode cX10_trial 58 = .ok (.invokevirtual 79, 3) := by decide +kernel
theorem dX10_trial_61 : decode cX10_trial 61 = .ok (.astore 6, 2) := by decide +kernel
theorem dX10_trial_63 : decode cX10_trial 63 = .ok (.iload_n 3, 1) := by decide +kernel
theorem dX10_trial_64 : decode cX10_trial 64 = .ok (.tableswitch 89 0 4 #[36, 43, 51, 59, 74], 36) := by decide +kernel
theorem dX10_trial_100 : decode cX10_trial 100 = .ok (.aload 5, 2) := by decide +kernel
theorem dX10_trial_102 : decode cX10_trial 102 = .ok (.iload_n 1, 1) := by decide +kernel
theorem dX10_trial_103 : decode cX10_trial 103 = .ok (.invokevirtual 227, 3) := by decide +kernel
theorem dX10_trial_106 : decode cX10_trial 106 = .ok (.ireturn, 1) := by decide +kernel
theorem dX10_trial_107 : decode cX10_trial 107 = .ok (.aload 5, 2) := by decide +kernel
theorem dX10_trial_109 : decode cX10_trial 109 = .ok (.iload_n 1, 1) := by decide +kernel
theorem dX10_trial_110 : decode cX10_trial 110 = .ok (.iconst 0, 1) := by decide +kernel
theorem dX10_trial_111 : decode cX10_trial 111 = .ok (.invokevirtual 212, 3) := by decide +kernel
theorem dX10_trial_114 : decode cX10_trial 114 = .ok (.ireturn, 1) := by decide +kernel
theorem dX10_trial_115 : decode cX10_trial 115 = .ok (.aload 5, 2) := by decide +kernel
theorem dX10_trial_117 : decode cX10_trial 117 = .ok (.iload_n 1, 1) := by decide +kernel
theorem dX10_trial_118 : decode cX10_trial 118 = .ok (.iconst 0, 1) := by decide +kernel
theorem dX10_trial_119 : decode cX10_trial 119 = .ok (.invokevirtual 215, 3) := by decide +kernel
theorem dX10_trial_122 : decode cX10_trial 122 = .ok (.ireturn, 1) := by decide +kernel
theorem dX10_trial_123 : decode cX10_trial 123 = .ok (.aload 6, 2) := by decide +kernel
theorem dX10_trial_125 : decode cX10_trial 125 = .ok (.ifnonnull 7, 3) := by decide +kernel
theorem dX10_trial_128 : decode cX10_trial 128 = .ok (.iconst (-1), 1) := by decide +kernel
theorem dX10_trial_129 : decode cX10_trial 129 = .ok (.goto 8, 3) := by decide +kernel
theorem dX10_trial_132 : decode cX10_trial 132 = .ok (.aload 6, 2) := by decide +kernel
theorem dX10_trial_134 : decode cX10_trial 134 = .ok (.getfield 230, 3) := by decide +kernel
theorem dX10_trial_137 : decode cX10_trial 137 = .ok (.ireturn, 1) := by decide +kernel
theorem dX10_trial_138 : decode cX10_trial 138 = .ok (.aload 6, 2) := by decide +kernel
theorem dX10_trial_140 : decode cX10_trial 140 = .ok (.ifnonnull 7, 3) := by decide +kernel
theorem dX10_trial_143 : decode cX10_trial 143 = .ok (.iconst (-1), 1) := by decide +kernel
theorem dX10_trial_144 : decode cX10_trial 144 = .ok (.goto 8, 3) := by decide +kernel
theorem dX10_trial_147 : decode cX10_trial 147 = .ok (.aload 6, 2) := by decide +kernel
theorem dX10_trial_149 : decode cX10_trial 149 = .ok (.getfield 231, 3) := by decide +kernel
theorem dX10_trial_152 : decode cX10_trial 152 = .ok (.ireturn, 1) := by decide +kernel
theorem dX10_trial_153 : decode cX10_trial 153 = .ok (.aload 5, 2) := by decide +kernel
theorem dX10_trial_155 : decode cX10_trial 155 = .ok (.getfield 218, 3) := by decide +kernel
theorem dX10_trial_158 : decode cX10_trial 158 = .ok (.getfield 55, 3) := by decide +kernel
theorem dX10_trial_161 : decode cX10_trial 161 = .ok (.ireturn, 1) := by decide +kernel
theorem dX10_log_0 : decode cX10_log 0 = .ok (.aload_n 0, 1) := by decide +kernel
theorem dX10_log_1 : decode cX10_log 1 = .ok (.getfield 51, 3) := by decide +kernel
theorem dX10_log_4 : decode cX10_log 4 = .ok (.getfield 218, 3) := by decide +kernel
theorem dX10_log_7 : decode cX10_log 7 = .ok (.iload_n 1, 1) := by decide +kernel
theorem dX10_log_8 : decode cX10_log 8 = .ok (.invokevirtual 88, 3) := by decide +kernel
theorem dX10_log_11 : decode cX10_log 11 = .ok (.ifCond .eq 17, 3) := by decide +kernel
theorem dX10_log_14 : decode cX10_log 14 = .ok (.aload_n 0, 1) := by decide +kernel
theorem dX10_log_15 : decode cX10_log 15 = .ok (.getfield 51, 3) := by decide +kernel
theorem dX10_log_18 : decode cX10_log 18 = .ok (.getfield 218, 3) := by decide +kernel
theorem dX10_log_21 : decode cX10_log 21 = .ok (.iload_n 1, 1) := by decide +kernel
theorem dX10_log_22 : decode cX10_log 22 = .ok (.invokevirtual 91, 3) := by decide +kernel
theorem dX10_log_25 : decode cX10_log 25 = .ok (.goto 4, 3) := by decide +kernel
theorem dX10_log_28 : decode cX10_log 28 = .ok (.iconst (-1), 1) := by decide +kernel
theorem dX10_log_29 : decode cX10_log 29 = .ok (.ireturn, 1) := by decide +kernel
theorem dX10_fault_0 : decode cX10_fault 0 = .ok (.iload_n 2, 1) := by decide +kernel
theorem dX10_fault_1 : decode cX10_fault 1 = .ok (.ifCond .lt 21, 3) := by decide +kernel
theorem dX10_fault_4 : decode cX10_fault 4 = .ok (.iload_n 2, 1) := by decide +kernel
theorem dX10_fault_5 : decode cX10_fault 5 = .ok (.aload_n 0, 1) := by decide +kernel
theorem dX10_fault_6 : decode cX10_fault 6 = .ok (.iload_n 1, 1) := by decide +kernel
theorem dX10_fault_7 : decode cX10_fault 7 = .ok (.invokevirtual 234, 3) := by decide +kernel
theorem dX10_fault_10 : decode cX10_fault 10 = .ok (.if_icmp .ge 12, 3) := by decide +kernel
theorem dX10_fault_13 : decode cX10_fault 13 = .ok (.iload_n 3, 1) := by decide +kernel
theorem dX10_fault_14 : decode cX10_fault 14 = .ok (.ifCond .lt 8, 3) := by decide +kernel
theorem dX10_fault_17 : decode cX10_fault 17 = .ok (.iload_n 3, 1) := by decide +kernel
theorem dX10_fault_18 : decode cX10_fault 18 = .ok (.iconst 1, 1) := by decide +kernel
theorem dX10_fault_19 : decode cX10_fault 19 = .ok (.if_icmp .le 5, 3) := by decide +kernel
theorem dX10_fault_22 : decode cX10_fault 22 = .ok (.iconst (-1), 1) := by decide +kernel
theorem dX10_fault_23 : decode cX10_fault 23 = .ok (.ireturn, 1) := by decide +kernel
theorem dX10_fault_24 : decode cX10_fault 24 = .ok (.iload_n 3, 1) := by decide +kernel
theorem dX10_fault_25 : decode cX10_fault 25 = .ok (.ifCond .ne 15, 3) := by decide +kernel
theorem dX10_fault_28 : decode cX10_fault 28 = .ok (.aload_n 0, 1) := by decide +kernel
theorem dX10_fault_29 : decode cX10_fault 29 = .ok (.getfield 51, 3) := by decide +kernel
theorem dX10_fault_32 : decode cX10_fault 32 = .ok (.iload_n 1, 1) := by decide +kernel
theorem dX10_fault_33 : decode cX10_fault 33 = .ok (.iload_n 2, 1) := by decide +kernel
theorem dX10_fault_34 : decode cX10_fault 34 = .ok (.invokevirtual 212, 3) := by decide +kernel
theorem dX10_fault_37 : decode cX10_fault 37 = .ok (.goto 12, 3) := by decide +kernel
theorem dX10_fault_40 : decode cX10_fault 40 = .ok (.aload_n 0, 1) := by decide +kernel
theorem dX10_fault_41 : decode cX10_fault 41 = .ok (.getfield 51, 3) := by decide +kernel
theorem dX10_fault_44 : decode cX10_fault 44 = .ok (.iload_n 1, 1) := by decide +kernel
theorem dX10_fault_45 : decode cX10_fault 45 = .ok (.iload_n 2, 1) := by decide +kernel
theorem dX10_fault_46 : decode cX10_fault 46 = .ok (.invokevirtual 215, 3) := by decide +kernel
theorem dX10_fault_49 : decode cX10_fault 49 = .ok (.ireturn, 1) := by decide +kernel
theorem dX10_faults_0 : decode cX10_faults 0 = .ok (.iload_n 1, 1) := by decide +kernel
theorem dX10_faults_1 : decode cX10_faults 1 = .ok (.iconst (-1), 1) := by decide +kernel
theorem dX10_faults_2 : decode cX10_faults 2 = .ok (.if_icmp .eq 16, 3) := by decide +kernel
theorem dX10_faults_5 : decode cX10_faults 5 = .ok (.aload_n 0, 1) := by decide +kernel
theorem dX10_faults_6 : decode cX10_faults 6 = .ok (.getfield 51, 3) := by decide +kernel
theorem dX10_faults_9 : decode cX10_faults 9 = .ok (.iload_n 1, 1) := by decide +kernel
theorem dX10_faults_10 : decode cX10_faults 10 = .ok (.invokevirtual 79, 3) := by decide +kernel
theorem dX10_faults_13 : decode cX10_faults 13 = .ok (.ifnonnull 5, 3) := by decide +kernel
theorem dX10_faults_16 : decode cX10_faults 16 = .ok (.iconst (-1), 1) := by decide +kernel
theorem dX10_faults_17 : decode cX10_faults 17 = .ok (.ireturn, 1) := by decide +kernel
theorem dX10_faults_18 : decode cX10_faults 18 = .ok (.aload_n 0, 1) := by decide +kernel
theorem dX10_faults_19 : decode cX10_faults 19 = .ok (.getfield 51, 3) := by decide +kernel
theorem dX10_faults_22 : decode cX10_faults 22 = .ok (.iload_n 1, 1) := by decide +kernel
theorem dX10_faults_23 : decode cX10_faults 23 = .ok (.invokevirtual 227, 3) := by decide +kernel
theorem dX10_faults_26 : decode cX10_faults 26 = .ok (.ireturn, 1) := by decide +kernel
theorem dX10_task_0 : decode cX10_task 0 = .ok (.aload_n 0, 1) := by decide +kernel
theorem dX10_task_1 : decode cX10_task 1 = .ok (.getfield 51, 3) := by decide +kernel
theorem dX10_task_4 : decode cX10_task 4 = .ok (.iload_n 1, 1) := by decide +kernel
theorem dX10_task_5 : decode cX10_task 5 = .ok (.invokevirtual 95, 3) := by decide +kernel
theorem dX10_task_8 : decode cX10_task 8 = .ok (.astore_n 3, 1) := by decide +kernel
theorem dX10_task_9 : decode cX10_task 9 = .ok (.aload_n 3, 1) := by decide +kernel
theorem dX10_task_10 : decode cX10_task 10 = .ok (.ifnonnull 5, 3) := by decide +kernel
theorem dX10_task_13 : decode cX10_task 13 = .ok (.iconst (-1), 1) := by decide +kernel
theorem dX10_task_14 : decode cX10_task 14 = .ok (.ireturn, 1) := by decide +kernel
theorem dX10_task_15 : decode cX10_task 15 = .ok (.iload_n 2, 1) := by decide +kernel
theorem dX10_task_16 : decode cX10_task 16 = .ok (.invokestatic 237, 3) := by decide +kernel
theorem dX10_task_19 : decode cX10_task 19 = .ok (.ifCond .ne 6, 3) := by decide +kernel
theorem dX10_task_22 : decode cX10_task 22 = .ok (.bipush (-2), 2) := by decide +kernel
theorem dX10_task_24 : decode cX10_task 24 = .ok (.ireturn, 1) := by decide +kernel
theorem dX10_task_25 : decode cX10_task 25 = .ok (.aload_n 3, 1) := by decide +kernel
theorem dX10_task_26 : decode cX10_task 26 = .ok (.getfield 99, 3) := by decide +kernel
theorem dX10_task_29 : decode cX10_task 29 = .ok (.ifCond .eq 6, 3) := by decide +kernel
theorem dX10_task_32 : decode cX10_task 32 = .ok (.bipush (-3), 2) := by decide +kernel
theorem dX10_task_34 : decode cX10_task 34 = .ok (.ireturn, 1) := by decide +kernel
theorem dX10_task_35 : decode cX10_task 35 = .ok (.aload_n 0, 1) := by decide +kernel
theorem dX10_task_36 : decode cX10_task 36 = .ok (.getfield 51, 3) := by decide +kernel
theorem dX10_task_39 : decode cX10_task 39 = .ok (.invokevirtual 240, 3) := by decide +kernel
theorem dX10_task_42 : decode cX10_task 42 = .ok (.ifCond .ne 13, 3) := by decide +kernel
theorem dX10_task_45 : decode cX10_task 45 = .ok (.aload_n 0, 1) := by decide +kernel
theorem dX10_task_46 : decode cX10_task 46 = .ok (.getfield 51, 3) := by decide +kernel
theorem dX10_task_49 : decode cX10_task 49 = .ok (.invokevirtual 104, 3) := by decide +kernel
theorem dX10_task_52 : decode cX10_task 52 = .ok (.ifCond .eq 6, 3) := by decide +kernel
theorem dX10_task_55 : decode cX10_task 55 = .ok (.bipush (-4), 2) := by decide +kernel
theorem dX10_task_57 : decode cX10_task 57 = .ok (.ireturn, 1) := by decide +kernel
theorem dX10_task_58 : decode cX10_task 58 = .ok (.aload_n 0, 1) := by decide +kernel
theorem dX10_task_59 : decode cX10_task 59 = .ok (.getfield 12, 3) := by decide +kernel
theorem dX10_task_62 : decode cX10_task 62 = .ok (.invokevirtual 243, 3) := by decide +kernel
theorem dX10_task_65 : decode cX10_task 65 = .ok (.astore 4, 2) := by decide +kernel
theorem dX10_task_67 : decode cX10_task 67 = .ok (.aload_n 0, 1) := by decide +kernel
theorem dX10_task_68 : decode cX10_task 68 = .ok (.getfield 22, 3) := by decide +kernel
theorem dX10_task_71 : decode cX10_task 71 = .ok (.iconst 0, 1) := by decide +kernel
theorem dX10_task_72 : decode cX10_task 72 = .ok (.putfield 55, 3) := by decide +kernel
theorem dX10_task_75 : decode cX10_task 75 = .ok (.aload 4, 2) := by decide +kernel
theorem dX10_task_77 : decode cX10_task 77 = .ok (.ifnonnull 16, 3) := by decide +kernel
theorem dX10_task_80 : decode cX10_task 80 = .ok (.bipush (-100), 2) := by decide +kernel
theorem dX10_task_82 : decode cX10_task 82 = .ok (.aload_n 0, 1) := by decide +kernel
theorem dX10_task_83 : decode cX10_task 83 = .ok (.getfield 12, 3) := by decide +kernel
theorem dX10_task_86 : decode cX10_task 86 = .ok (.getfield 116, 3) := by decide +kernel
theorem dX10_task_89 : decode cX10_task 89 = .ok (.isub, 1) := by decide +kernel
theorem dX10_task_90 : decode cX10_task 90 = .ok (.goto 14, 3) := by decide +kernel
theorem dX10_task_93 : decode cX10_task 93 = .ok (.aload_n 0, 1) := by decide +kernel
theorem dX10_task_94 : decode cX10_task 94 = .ok (.getfield 51, 3) := by decide +kernel
theorem dX10_task_97 : decode cX10_task 97 = .ok (.aload 4, 2) := by decide +kernel
theorem dX10_task_99 : decode cX10_task 99 = .ok (.iload_n 1, 1) := by decide +kernel
theorem dX10_task_100 : decode cX10_task 100 = .ok (.iload_n 2, 1) := by decide +kernel
theorem dX10_task_101 : decode cX10_task 101 = .ok (.invokevirtual 246, 3) := by decide +kernel
theorem dX10_task_104 : decode cX10_task 104 = .ok (.ireturn, 1) := by decide +kernel
theorem dX10_tick_0 : decode cX10_tick 0 = .ok (.aload_n 0, 1) := by decide +kernel
theorem dX10_tick_1 : decode cX10_tick 1 = .ok (.getfield 43, 3) := by decide +kernel
theorem dX10_tick_4 : decode cX10_tick 4 = .ok (.invokevirtual 250, 3) := by decide +kernel
theorem dX10_tick_7 : decode cX10_tick 7 = .ok (.ireturn, 1) := by decide +kernel
theorem dX10_run_0 : decode cX10_run 0 = .ok (.iload_n 1, 1) := by decide +kernel
theorem dX10_run_1 : decode cX10_run 1 = .ok (.ifCond .lt 9, 3) := by decide +kernel
theorem dX10_run_4 : decode cX10_run 4 = .ok (.iload_n 1, 1) := by decide +kernel
theorem dX10_run_5 : decode cX10_run 5 = .ok (.bipush 100, 2) := by decide +kernel
theorem dX10_run_7 : decode cX10_run 7 = .ok (.if_icmp .le 8, 3) := by decide +kernel
theorem dX10_run_10 : decode cX10_run 10 = .ok (.bipush (-2), 2) := by decide +kernel
theorem dX10_run_12 : decode cX10_run 12 = .ok (.goto 11, 3) := by decide +kernel
theorem dX10_run_15 : decode cX10_run 15 = .ok (.aload_n 0, 1) := by decide +kernel
theorem dX10_run_16 : decode cX10_run 16 = .ok (.getfield 43, 3) := by decide +kernel
theorem dX10_run_19 : decode cX10_run 19 = .ok (.iload_n 1, 1) := by decide +kernel
theorem dX10_run_20 : decode cX10_run 20 = .ok (.invokevirtual 224, 3) := by decide +kernel
theorem dX10_run_23 : decode cX10_run 23 = .ok (.ireturn, 1) := by decide +kernel
theorem dX10_cancel_0 : decode cX10_cancel 0 = .ok (.aload_n 0, 1) := by decide +kernel
theorem dX10_cancel_1 : decode cX10_cancel 1 = .ok (.getfield 51, 3) := by decide +kernel
theorem dX10_cancel_4 : decode cX10_cancel 4 = .ok (.iload_n 1, 1) := by decide +kernel
theorem dX10_cancel_5 : decode cX10_cancel 5 = .ok (.invokevirtual 79, 3) := by decide +kernel
theorem dX10_cancel_8 : decode cX10_cancel 8 = .ok (.astore_n 2, 1) := by decide +kernel
theorem dX10_cancel_9 : decode cX10_cancel 9 = .ok (.aload_n 2, 1) := by decide +kernel
theorem dX10_cancel_10 : decode cX10_cancel 10 = .ok (.ifnonnull 5, 3) := by decide +kernel
theorem dX10_cancel_13 : decode cX10_cancel 13 = .ok (.iconst (-1), 1) := by decide +kernel
theorem dX10_cancel_14 : decode cX10_cancel 14 = .ok (.ireturn, 1) := by decide +kernel
theorem dX10_cancel_15 : decode cX10_cancel 15 = .ok (.aload_n 2, 1) := by decide +kernel
theorem dX10_cancel_16 : decode cX10_cancel 16 = .ok (.getfield 230, 3) := by decide +kernel
theorem dX10_cancel_19 : decode cX10_cancel 19 = .ok (.ifCond .eq 6, 3) := by decide +kernel
theorem dX10_cancel_22 : decode cX10_cancel 22 = .ok (.bipush (-3), 2) := by decide +kernel
theorem dX10_cancel_24 : decode cX10_cancel 24 = .ok (.ireturn, 1) := by decide +kernel
theorem dX10_cancel_25 : decode cX10_cancel 25 = .ok (.aload_n 2, 1) := by decide +kernel
theorem dX10_cancel_26 : decode cX10_cancel 26 = .ok (.getfield 254, 3) := by decide +kernel
theorem dX10_cancel_29 : decode cX10_cancel 29 = .ok (.ifCond .eq 7, 3) := by decide +kernel
theorem dX10_cancel_32 : decode cX10_cancel 32 = .ok (.iconst 0, 1) := by decide +kernel
theorem dX10_cancel_33 : decode cX10_cancel 33 = .ok (.goto 4, 3) := by decide +kernel
theorem dX10_cancel_36 : decode cX10_cancel 36 = .ok (.iconst 1, 1) := by decide +kernel
theorem dX10_cancel_37 : decode cX10_cancel 37 = .ok (.istore_n 3, 1) := by decide +kernel
theorem dX10_cancel_38 : decode cX10_cancel 38 = .ok (.aload_n 2, 1) := by decide +kernel
theorem dX10_cancel_39 : decode cX10_cancel 39 = .ok (.iconst 1, 1) := by decide +kernel
theorem dX10_cancel_40 : decode cX10_cancel 40 = .ok (.putfield 254, 3) := by decide +kernel
theorem dX10_cancel_43 : decode cX10_cancel 43 = .ok (.iload_n 3, 1) := by decide +kernel
theorem dX10_cancel_44 : decode cX10_cancel 44 = .ok (.ireturn, 1) := by decide +kernel
theorem dX10_rank_0 : decode cX10_rank 0 = .ok (.aload_n 0, 1) := by decide +kernel
theorem dX10_rank_1 : decode cX10_rank 1 = .ok (.getfield 51, 3) := by decide +kernel
theorem dX10_rank_4 : decode cX10_rank 4 = .ok (.iload_n 1, 1) := by decide +kernel
theorem dX10_rank_5 : decode cX10_rank 5 = .ok (.invokevirtual 79, 3) := by decide +kernel
theorem dX10_rank_8 : decode cX10_rank 8 = .ok (.astore_n 3, 1) := by decide +kernel
theorem dX10_rank_9 : decode cX10_rank 9 = .ok (.aload_n 3, 1) := by decide +kernel
theorem dX10_rank_10 : decode cX10_rank 10 = .ok (.ifnonnull 5, 3) := by decide +kernel
theorem dX10_rank_13 : decode cX10_rank 13 = .ok (.iconst (-1), 1) := by decide +kernel
theorem dX10_rank_14 : decode cX10_rank 14 = .ok (.ireturn, 1) := by decide +kernel
theorem dX10_rank_15 : decode cX10_rank 15 = .ok (.iload_n 2, 1) := by decide +kernel
theorem dX10_rank_16 : decode cX10_rank 16 = .ok (.invokestatic 237, 3) := by decide +kernel
theorem dX10_rank_19 : decode cX10_rank 19 = .ok (.ifCond .ne 6, 3) := by decide +kernel
theorem dX10_rank_22 : decode cX10_rank 22 = .ok (.bipush (-2), 2) := by decide +kernel
theorem dX10_rank_24 : decode cX10_rank 24 = .ok (.ireturn, 1) := by decide +kernel
theorem dX10_rank_25 : decode cX10_rank 25 = .ok (.aload_n 3, 1) := by decide +kernel
theorem dX10_rank_26 : decode cX10_rank 26 = .ok (.getfield 230, 3) := by decide +kernel
theorem dX10_rank_29 : decode cX10_rank 29 = .ok (.ifCond .eq 6, 3) := by decide +kernel
theorem dX10_rank_32 : decode cX10_rank 32 = .ok (.bipush (-3), 2) := by decide +kernel
theorem dX10_rank_34 : decode cX10_rank 34 = .ok (.ireturn, 1) := by decide +kernel
theorem dX10_rank_35 : decode cX10_rank 35 = .ok (.aload_n 3, 1) := by decide +kernel
theorem dX10_rank_36 : decode cX10_rank 36 = .ok (.getfield 258, 3) := by decide +kernel
theorem dX10_rank_39 : decode cX10_rank 39 = .ok (.istore 4, 2) := by decide +kernel
theorem dX10_rank_41 : decode cX10_rank 41 = .ok (.aload_n 3, 1) := by decide +kernel
theorem dX10_rank_42 : decode cX10_rank 42 = .ok (.iload_n 2, 1) := by decide +kernel
theorem dX10_rank_43 : decode cX10_rank 43 = .ok (.putfield 258, 3) := by decide +kernel
theorem dX10_rank_46 : decode cX10_rank 46 = .ok (.iload 4, 2) := by decide +kernel
theorem dX10_rank_48 : decode cX10_rank 48 = .ok (.bipush 100, 2) := by decide +kernel
theorem dX10_rank_50 : decode cX10_rank 50 = .ok (.iadd, 1) := by decide +kernel
theorem dX10_rank_51 : decode cX10_rank 51 = .ok (.ireturn, 1) := by decide +kernel
theorem dX10_of_0 : decode cX10_of 0 = .ok (.aload_n 0, 1) := by decide +kernel
theorem dX10_of_1 : decode cX10_of 1 = .ok (.getfield 51, 3) := by decide +kernel
theorem dX10_of_4 : decode cX10_of 4 = .ok (.iload_n 1, 1) := by decide +kernel
theorem dX10_of_5 : decode cX10_of 5 = .ok (.invokevirtual 79, 3) := by decide +kernel
theorem dX10_of_8 : decode cX10_of 8 = .ok (.astore_n 3, 1) := by decide +kernel
theorem dX10_of_9 : decode cX10_of 9 = .ok (.aload_n 3, 1) := by decide +kernel
theorem dX10_of_10 : decode cX10_of 10 = .ok (.ifnonnull 5, 3) := by decide +kernel
theorem dX10_of_13 : decode cX10_of 13 = .ok (.iconst (-1), 1) := by decide +kernel
theorem dX10_of_14 : decode cX10_of 14 = .ok (.ireturn, 1) := by decide +kernel
theorem dX10_of_15 : decode cX10_of 15 = .ok (.iload_n 2, 1) := by decide +kernel
theorem dX10_of_16 : decode cX10_of 16 = .ok (.tableswitch 106 0 7 #[48, 53, 61, 66, 71, 80, 85, 98], 48) := by decide +kernel
theorem dX10_of_64 : decode cX10_of 64 = .ok (.aload_n 3, 1) := by decide +kernel
theorem dX10_of_65 : decode cX10_of 65 = .ok (.getfield 230, 3) := by decide +kernel
theorem dX10_of_68 : decode cX10_of 68 = .ok (.ireturn, 1) := by decide +kernel
theorem dX10_of_69 : decode cX10_of 69 = .ok (.aload_n 3, 1) := by decide +kernel
theorem dX10_of_70 : decode cX10_of 70 = .ok (.getfield 258, 3) := by decide +kernel
theorem dX10_of_73 : decode cX10_of 73 = .ok (.bipush 100, 2) := by decide +kernel
theorem dX10_of_75 : decode cX10_of 75 = .ok (.iadd, 1) := by decide +kernel
theorem dX10_of_76 : decode cX10_of 76 = .ok (.ireturn, 1) := by decide +kernel
theorem dX10_of_77 : decode cX10_of 77 = .ok (.aload_n 3, 1) := by decide +kernel
theorem dX10_of_78 : decode cX10_of 78 = .ok (.getfield 231, 3) := by decide +kernel
theorem dX10_of_81 : decode cX10_of 81 = .ok (.ireturn, 1) := by decide +kernel
theorem dX10_of_82 : decode cX10_of 82 = .ok (.aload_n 3, 1) := by decide +kernel
theorem dX10_of_83 : decode cX10_of 83 = .ok (.getfield 261, 3) := by decide +kernel
theorem dX10_of_86 : decode cX10_of 86 = .ok (.ireturn, 1) := by decide +kernel
theorem dX10_of_87 : decode cX10_of 87 = .ok (.aload_n 0, 1) := by decide +kernel
theorem dX10_of_88 : decode cX10_of 88 = .ok (.getfield 51, 3) := by decide +kernel
theorem dX10_of_91 : decode cX10_of 91 = .ok (.iload_n 1, 1) := by decide +kernel
theorem dX10_of_92 : decode cX10_of 92 = .ok (.invokevirtual 264, 3) := by decide +kernel
theorem dX10_of_95 : decode cX10_of 95 = .ok (.ireturn, 1) := by decide +kernel
theorem dX10_of_96 : decode cX10_of 96 = .ok (.aload_n 3, 1) := by decide +kernel
theorem dX10_of_97 : decode cX10_of 97 = .ok (.getfield 267, 3) := by decide +kernel
theorem dX10_of_100 : decode cX10_of 100 = .ok (.ireturn, 1) := by decide +kernel
theorem dX10_of_101 : decode cX10_of 101 = .ok (.aload_n 3, 1) := by decide +kernel
theorem dX10_of_102 : decode cX10_of 102 = .ok (.getfield 254, 3) := by decide +kernel
theorem dX10_of_105 : decode cX10_of 105 = .ok (.ifCond .eq 7, 3) := by decide +kernel
theorem dX10_of_108 : decode cX10_of 108 = .ok (.iconst 1, 1) := by decide +kernel
theorem dX10_of_109 : decode cX10_of 109 = .ok (.goto 4, 3) := by decide +kernel
theorem dX10_of_112 : decode cX10_of 112 = .ok (.iconst 0, 1) := by decide +kernel
theorem dX10_of_113 : decode cX10_of 113 = .ok (.ireturn, 1) := by decide +kernel
theorem dX10_of_114 : decode cX10_of 114 = .ok (.aload_n 3, 1) := by decide +kernel
theorem dX10_of_115 : decode cX10_of 115 = .ok (.getfield 83, 3) := by decide +kernel
theorem dX10_of_118 : decode cX10_of 118 = .ok (.invokestatic 183, 3) := by decide +kernel
theorem dX10_of_121 : decode cX10_of 121 = .ok (.ireturn, 1) := by decide +kernel
theorem dX10_of_122 : decode cX10_of 122 = .ok (.iconst (-1), 1) := by decide +kernel
theorem dX10_of_123 : decode cX10_of 123 = .ok (.ireturn, 1) := by decide +kernel
theorem dX10_ready_0 : decode cX10_ready 0 = .ok (.iload_n 1, 1) := by decide +kernel
theorem dX10_ready_1 : decode cX10_ready 1 = .ok (.ifCond .ge 7, 3) := by decide +kernel
theorem dX10_ready_4 : decode cX10_ready 4 = .ok (.iconst (-1), 1) := by decide +kernel
theorem dX10_ready_5 : decode cX10_ready 5 = .ok (.goto 11, 3) := by decide +kernel
theorem dX10_ready_8 : decode cX10_ready 8 = .ok (.aload_n 0, 1) := by decide +kernel
theorem dX10_ready_9 : decode cX10_ready 9 = .ok (.getfield 51, 3) := by decide +kernel
theorem dX10_ready_12 : decode cX10_ready 12 = .ok (.iload_n 1, 1) := by decide +kernel
theorem dX10_ready_13 : decode cX10_ready 13 = .ok (.invokevirtual 270, 3) := by decide +kernel
theorem dX10_ready_16 : decode cX10_ready 16 = .ok (.ireturn, 1) := by decide +kernel
theorem dX10_told_0 : decode cX10_told 0 = .ok (.iload_n 1, 1) := by decide +kernel
theorem dX10_told_1 : decode cX10_told 1 = .ok (.tableswitch 139 0 9 #[55, 63, 71, 79, 88, 96, 104, 112, 123, 131], 55) := by decide +kernel
theorem dX10_told_56 : decode cX10_told 56 = .ok (.aload_n 0, 1) := by decide +kernel
theorem dX10_told_57 : decode cX10_told 57 = .ok (.getfield 51, 3) := by decide +kernel
theorem dX10_told_60 : decode cX10_told 60 = .ok (.getfield 273, 3) := by decide +kernel
theorem dX10_told_63 : decode cX10_told 63 = .ok (.ireturn, 1) := by decide +kernel
theorem dX10_told_64 : decode cX10_told 64 = .ok (.aload_n 0, 1) := by decide +kernel
theorem dX10_told_65 : decode cX10_told 65 = .ok (.getfield 51, 3) := by decide +kernel
theorem dX10_told_68 : decode cX10_told 68 = .ok (.invokevirtual 276, 3) := by decide +kernel
theorem dX10_told_71 : decode cX10_told 71 = .ok (.ireturn, 1) := by decide +kernel
theorem dX10_told_72 : decode cX10_told 72 = .ok (.aload_n 0, 1) := by decide +kernel
theorem dX10_told_73 : decode cX10_told 73 = .ok (.getfield 51, 3) := by decide +kernel
theorem dX10_told_76 : decode cX10_told 76 = .ok (.getfield 221, 3) := by decide +kernel
theorem dX10_told_79 : decode cX10_told 79 = .ok (.ireturn, 1) := by decide +kernel
theorem dX10_told_80 : decode cX10_told 80 = .ok (.aload_n 0, 1) := by decide +kernel
theorem dX10_told_81 : decode cX10_told 81 = .ok (.getfield 51, 3) := by decide +kernel
theorem dX10_told_84 : decode cX10_told 84 = .ok (.iconst 0, 1) := by decide +kernel
theorem dX10_told_85 : decode cX10_told 85 = .ok (.invokevirtual 158, 3) := by decide +kernel
theorem dX10_told_88 : decode cX10_told 88 = .ok (.ireturn, 1) := by decide +kernel
theorem dX10_told_89 : decode cX10_told 89 = .ok (.aload_n 0, 1) := by decide +kernel
theorem dX10_told_90 : decode cX10_told 90 = .ok (.getfield 51, 3) := by decide +kernel
theorem dX10_told_93 : decode cX10_told 93 = .ok (.getfield 279, 3) := by decide +kernel
theorem dX10_told_96 : decode cX10_told 96 = .ok (.ireturn, 1) := by decide +kernel
theorem dX10_told_97 : decode cX10_told 97 = .ok (.aload_n 0, 1) := by decide +kernel
theorem dX10_told_98 : decode cX10_told 98 = .ok (.getfield 51, 3) := by decide +kernel
theorem dX10_told_101 : decode cX10_told 101 = .ok (.invokevirtual 282, 3) := by decide +kernel
theorem dX10_told_104 : decode cX10_told 104 = .ok (.ireturn, 1) := by decide +kernel
theorem dX10_told_105 : decode cX10_told 105 = .ok (.aload_n 0, 1) := by decide +kernel
theorem dX10_told_106 : decode cX10_told 106 = .ok (.getfield 51, 3) := by decide +kernel
theorem dX10_told_109 : decode cX10_told 109 = .ok (.getfield 285, 3) := by decide +kernel
theorem dX10_told_112 : decode cX10_told 112 = .ok (.ireturn, 1) := by decide +kernel
theorem dX10_told_113 : decode cX10_told 113 = .ok (.aload_n 0, 1) := by decide +kernel
theorem dX10_told_114 : decode cX10_told 114 = .ok (.getfield 51, 3) := by decide +kernel
theorem dX10_told_117 : decode cX10_told 117 = .ok (.getfield 218, 3) := by decide +kernel
theorem dX10_told_120 : decode cX10_told 120 = .ok (.getfield 55, 3) := by decide +kernel
theorem dX10_told_123 : decode cX10_told 123 = .ok (.ireturn, 1) := by decide +kernel
theorem dX10_told_124 : decode cX10_told 124 = .ok (.aload_n 0, 1) := by decide +kernel
theorem dX10_told_125 : decode cX10_told 125 = .ok (.getfield 22, 3) := by decide +kernel
theorem dX10_told_128 : decode cX10_told 128 = .ok (.getfield 55, 3) := by decide +kernel
theorem dX10_told_131 : decode cX10_told 131 = .ok (.ireturn, 1) := by decide +kernel
theorem dX10_told_132 : decode cX10_told 132 = .ok (.aload_n 0, 1) := by decide +kernel
theorem dX10_told_133 : decode cX10_told 133 = .ok (.getfield 33, 3) := by decide +kernel
theorem dX10_told_136 : decode cX10_told 136 = .ok (.getfield 55, 3) := by decide +kernel
theorem dX10_told_139 : decode cX10_told 139 = .ok (.ireturn, 1) := by decide +kernel
theorem dX10_told_140 : decode cX10_told 140 = .ok (.iconst (-1), 1) := by decide +kernel
theorem dX10_told_141 : decode cX10_told 141 = .ok (.ireturn, 1) := by decide +kernel
theorem dX10_row_0 : decode cX10_row 0 = .ok (.aload_n 0, 1) := by decide +kernel
theorem dX10_row_1 : decode cX10_row 1 = .ok (.iload_n 1, 1) := by decide +kernel
theorem dX10_row_2 : decode cX10_row 2 = .ok (.invokevirtual 286, 3) := by decide +kernel
theorem dX10_row_5 : decode cX10_row 5 = .ok (.astore_n 3, 1) := by decide +kernel
theorem dX10_row_6 : decode cX10_row 6 = .ok (.aload_n 3, 1) := by decide +kernel
theorem dX10_row_7 : decode cX10_row 7 = .ok (.ifnonnull 5, 3) := by decide +kernel
theorem dX10_row_10 : decode cX10_row 10 = .ok (.iconst (-1), 1) := by decide +kernel
theorem dX10_row_11 : decode cX10_row 11 = .ok (.ireturn, 1) := by decide +kernel
theorem dX10_row_12 : decode cX10_row 12 = .ok (.iload_n 2, 1) := by decide +kernel
theorem dX10_row_13 : decode cX10_row 13 = .ok (.bipush 40, 2) := by decide +kernel
theorem dX10_row_15 : decode cX10_row 15 = .ok (.if_icmp .le 6, 3) := by decide +kernel
theorem dX10_row_18 : decode cX10_row 18 = .ok (.bipush (-2), 2) := by decide +kernel
theorem dX10_row_20 : decode cX10_row 20 = .ok (.ireturn, 1) := by decide +kernel
theorem dX10_row_21 : decode cX10_row 21 = .ok (.iload_n 2, 1) := by decide +kernel
theorem dX10_row_22 : decode cX10_row 22 = .ok (.ifCond .ge 6, 3) := by decide +kernel
theorem dX10_row_25 : decode cX10_row 25 = .ok (.bipush (-14), 2) := by decide +kernel
theorem dX10_row_27 : decode cX10_row 27 = .ok (.ireturn, 1) := by decide +kernel
theorem dX10_row_28 : decode cX10_row 28 = .ok (.aload_n 3, 1) := by decide +kernel
theorem dX10_row_29 : decode cX10_row 29 = .ok (.iload_n 2, 1) := by decide +kernel
theorem dX10_row_30 : decode cX10_row 30 = .ok (.invokevirtual 290, 3) := by decide +kernel
theorem dX10_row_33 : decode cX10_row 33 = .ok (.iconst 1, 1) := by decide +kernel
theorem dX10_row_34 : decode cX10_row 34 = .ok (.ireturn, 1) := by decide +kernel
theorem dX10_set_0 : decode cX10_set 0 = .ok (.aload_n 0, 1) := by decide +kernel
theorem dX10_set_1 : decode cX10_set 1 = .ok (.iload_n 1, 1) := by decide +kernel
theorem dX10_set_2 : decode cX10_set 2 = .ok (.invokevirtual 286, 3) := by decide +kernel
theorem dX10_set_5 : decode cX10_set 5 = .ok (.astore 4, 2) := by decide +kernel
theorem dX10_set_7 : decode cX10_set 7 = .ok (.aload 4, 2) := by decide +kernel
theorem dX10_set_9 : decode cX10_set 9 = .ok (.ifnonnull 5, 3) := by decide +kernel
theorem dX10_set_12 : decode cX10_set 12 = .ok (.iconst (-1), 1) := by decide +kernel
theorem dX10_set_13 : decode cX10_set 13 = .ok (.ireturn, 1) := by decide +kernel
theorem dX10_set_14 : decode cX10_set 14 = .ok (.aload 4, 2) := by decide +kernel
theorem dX10_set_16 : decode cX10_set 16 = .ok (.getfield 55, 3) := by decide +kernel
theorem dX10_set_19 : decode cX10_set 19 = .ok (.bipush (-11), 2) := by decide +kernel
theorem dX10_set_21 : decode cX10_set 21 = .ok (.if_icmp .ne 6, 3) := by decide +kernel
theorem dX10_set_24 : decode cX10_set 24 = .ok (.bipush (-11), 2) := by decide +kernel
theorem dX10_set_26 : decode cX10_set 26 = .ok (.ireturn, 1) := by decide +kernel
theorem dX10_set_27 : decode cX10_set 27 = .ok (.aload 4, 2) := by decide +kernel
theorem dX10_set_29 : decode cX10_set 29 = .ok (.iload_n 2, 1) := by decide +kernel
theorem dX10_set_30 : decode cX10_set 30 = .ok (.invokevirtual 88, 3) := by decide +kernel
theorem dX10_set_33 : decode cX10_set 33 = .ok (.ifCond .ne 6, 3) := by decide +kernel
theorem dX10_set_36 : decode cX10_set 36 = .ok (.bipush (-13), 2) := by decide +kernel
theorem dX10_set_38 : decode cX10_set 38 = .ok (.ireturn, 1) := by decide +kernel
theorem dX10_set_39 : decode cX10_set 39 = .ok (.aload 4, 2) := by decide +kernel
theorem dX10_set_41 : decode cX10_set 41 = .ok (.iload_n 2, 1) := by decide +kernel
theorem dX10_set_42 : decode cX10_set 42 = .ok (.iload_n 3, 1) := by decide +kernel
theorem dX10_set_43 : decode cX10_set 43 = .ok (.invokevirtual 150, 3) := by decide +kernel
theorem dX10_set_46 : decode cX10_set 46 = .ok (.iconst 1, 1) := by decide +kernel
theorem dX10_set_47 : decode cX10_set 47 = .ok (.ireturn, 1) := by decide +kernel
theorem dX10_get_0 : decode cX10_get 0 = .ok (.aload_n 0, 1) := by decide +kernel
theorem dX10_get_1 : decode cX10_get 1 = .ok (.iload_n 1, 1) := by decide +kernel
theorem dX10_get_2 : decode cX10_get 2 = .ok (.invokevirtual 286, 3) := by decide +kernel
theorem dX10_get_5 : decode cX10_get 5 = .ok (.astore_n 3, 1) := by decide +kernel
theorem dX10_get_6 : decode cX10_get 6 = .ok (.aload_n 3, 1) := by decide +kernel
theorem dX10_get_7 : decode cX10_get 7 = .ok (.ifnull 11, 3) := by decide +kernel
theorem dX10_get_10 : decode cX10_get 10 = .ok (.aload_n 3, 1) := by decide +kernel
theorem dX10_get_11 : decode cX10_get 11 = .ok (.iload_n 2, 1) := by decide +kernel
theorem dX10_get_12 : decode cX10_get 12 = .ok (.invokevirtual 88, 3) := by decide +kernel
theorem dX10_get_15 : decode cX10_get 15 = .ok (.ifCond .ne 9, 3) := by decide +kernel
theorem dX10_get_18 : decode cX10_get 18 = .ok (.ldc2_w 153, 3) := by decide +kernel
theorem dX10_get_21 : decode cX10_get 21 = .ok (.goto 9, 3) := by decide +kernel
theorem dX10_get_24 : decode cX10_get 24 = .ok (.aload_n 3, 1) := by decide +kernel
theorem dX10_get_25 : decode cX10_get 25 = .ok (.iload_n 2, 1) := by decide +kernel
theorem dX10_get_26 : decode cX10_get 26 = .ok (.invokevirtual 91, 3) := by decide +kernel
theorem dX10_get_29 : decode cX10_get 29 = .ok (.i2l, 1) := by decide +kernel
theorem dX10_get_30 : decode cX10_get 30 = .ok (.lreturn, 1) := by decide +kernel
theorem dX10_copy_0 : decode cX10_copy 0 = .ok (.aload_n 0, 1) := by decide +kernel
theorem dX10_copy_1 : decode cX10_copy 1 = .ok (.iload_n 1, 1) := by decide +kernel
theorem dX10_copy_2 : decode cX10_copy 2 = .ok (.invokevirtual 286, 3) := by decide +kernel
theorem dX10_copy_5 : decode cX10_copy 5 = .ok (.astore 6, 2) := by decide +kernel
theorem dX10_copy_7 : decode cX10_copy 7 = .ok (.aload_n 0, 1) := by decide +kernel
theorem dX10_copy_8 : decode cX10_copy 8 = .ok (.iload_n 3, 1) := by decide +kernel
theorem dX10_copy_9 : decode cX10_copy 9 = .ok (.invokevirtual 286, 3) := by decide +kernel
theorem dX10_copy_12 : decode cX10_copy 12 = .ok (.astore 7, 2) := by decide +kernel
theorem dX10_copy_14 : decode cX10_copy 14 = .ok (.aload 6, 2) := by decide +kernel
theorem dX10_copy_16 : decode cX10_copy 16 = .ok (.ifnull 8, 3) := by decide +kernel
theorem dX10_copy_19 : decode cX10_copy 19 = .ok (.aload 7, 2) := by decide +kernel
theorem dX10_copy_21 : decode cX10_copy 21 = .ok (.ifnonnull 5, 3) := by decide +kernel
theorem dX10_copy_24 : decode cX10_copy 24 = .ok (.iconst (-1), 1) := by decide +kernel
theorem dX10_copy_25 : decode cX10_copy 25 = .ok (.ireturn, 1) := by decide +kernel
theorem dX10_copy_26 : decode cX10_copy 26 = .ok (.aload 6, 2) := by decide +kernel
theorem dX10_copy_28 : decode cX10_copy 28 = .ok (.getfield 55, 3) := by decide +kernel
theorem dX10_copy_31 : decode cX10_copy 31 = .ok (.bipush (-11), 2) := by decide +kernel
theorem dX10_copy_33 : decode cX10_copy 33 = .ok (.if_icmp .eq 13, 3) := by decide +kernel
theorem dX10_copy_36 : decode cX10_copy 36 = .ok (.aload 7, 2) := by decide +kernel
theorem dX10_copy_38 : decode cX10_copy 38 = .ok (.getfield 55, 3) := by decide +kernel
theorem dX10_copy_41 : decode cX10_copy 41 = .ok (.bipush (-11), 2) := by decide +kernel
theorem dX10_copy_43 : decode cX10_copy 43 = .ok (.if_icmp .ne 6, 3) := by decide +kernel
theorem dX10_copy_46 : decode cX10_copy 46 = .ok (.bipush (-11), 2) := by decide +kernel
theorem dX10_copy_48 : decode cX10_copy 48 = .ok (.ireturn, 1) := by decide +kernel
theorem dX10_copy_49 : decode cX10_copy 49 = .ok (.aload 6, 2) := by decide +kernel
theorem dX10_copy_51 : decode cX10_copy 51 = .ok (.iload_n 2, 1) := by decide +kernel
theorem dX10_copy_52 : decode cX10_copy 52 = .ok (.iload 5, 2) := by decide +kernel
theorem dX10_copy_54 : decode cX10_copy 54 = .ok (.invokevirtual 293, 3) := by decide +kernel
theorem dX10_copy_57 : decode cX10_copy 57 = .ok (.ifCond .eq 15, 3) := by decide +kernel
theorem dX10_copy_60 : decode cX10_copy 60 = .ok (.aload 7, 2) := by decide +kernel
theorem dX10_copy_62 : decode cX10_copy 62 = .ok (.iload 4, 2) := by decide +kernel
theorem dX10_copy_64 : decode cX10_copy 64 = .ok (.iload 5, 2) := by decide +kernel
theorem dX10_copy_66 : decode cX10_copy 66 = .ok (.invokevirtual 293, 3) := by decide +kernel
theorem dX10_copy_69 : decode cX10_copy 69 = .ok (.ifCond .ne 6, 3) := by decide +kernel
theorem dX10_copy_72 : decode cX10_copy 72 = .ok (.bipush (-13), 2) := by decide +kernel
theorem dX10_copy_74 : decode cX10_copy 74 = .ok (.ireturn, 1) := by decide +kernel
theorem dX10_copy_75 : decode cX10_copy 75 = .ok (.aload 6, 2) := by decide +kernel
theorem dX10_copy_77 : decode cX10_copy 77 = .ok (.getfield 296, 3) := by decide +kernel
theorem dX10_copy_80 : decode cX10_copy 80 = .ok (.iload_n 2, 1) := by decide +kernel
theorem dX10_copy_81 : decode cX10_copy 81 = .ok (.aload 7, 2) := by decide +kernel
theorem dX10_copy_83 : decode cX10_copy 83 = .ok (.getfield 296, 3) := by decide +kernel
theorem dX10_copy_86 : decode cX10_copy 86 = .ok (.iload 4, 2) := by decide +kernel
theorem dX10_copy_88 : decode cX10_copy 88 = .ok (.iload 5, 2) := by decide +kernel
theorem dX10_copy_90 : decode cX10_copy 90 = .ok (.invokestatic 300, 3) := by decide +kernel
theorem dX10_copy_93 : decode cX10_copy 93 = .ok (.iload 5, 2) := by decide +kernel
theorem dX10_copy_95 : decode cX10_copy 95 = .ok (.ireturn, 1) := by decide +kernel
theorem dX10_lay_0 : decode cX10_lay 0 = .ok (.aload_n 0, 1) := by decide +kernel
theorem dX10_lay_1 : decode cX10_lay 1 = .ok (.iload_n 1, 1) := by decide +kernel
theorem dX10_lay_2 : decode cX10_lay 2 = .ok (.invokevirtual 286, 3) := by decide +kernel
theorem dX10_lay_5 : decode cX10_lay 5 = .ok (.astore_n 3, 1) := by decide +kernel
theorem dX10_lay_6 : decode cX10_lay 6 = .ok (.aload_n 3, 1) := by decide +kernel
theorem dX10_lay_7 : decode cX10_lay 7 = .ok (.ifnonnull 5, 3) := by decide +kernel
theorem dX10_lay_10 : decode cX10_lay 10 = .ok (.iconst (-1), 1) := by decide +kernel
theorem dX10_lay_11 : decode cX10_lay 11 = .ok (.ireturn, 1) := by decide +kernel
theorem dX10_lay_12 : decode cX10_lay 12 = .ok (.aload_n 3, 1) := by decide +kernel
theorem dX10_lay_13 : decode cX10_lay 13 = .ok (.getfield 55, 3) := by decide +kernel
theorem dX10_lay_16 : decode cX10_lay 16 = .ok (.bipush (-11), 2) := by decide +kernel
theorem dX10_lay_18 : decode cX10_lay 18 = .ok (.if_icmp .ne 6, 3) := by decide +kernel
theorem dX10_lay_21 : decode cX10_lay 21 = .ok (.bipush (-11), 2) := by decide +kernel
theorem dX10_lay_23 : decode cX10_lay 23 = .ok (.ireturn, 1) := by decide +kernel
theorem dX10_lay_24 : decode cX10_lay 24 = .ok (.iconst 0, 1) := by decide +kernel
theorem dX10_lay_25 : decode cX10_lay 25 = .ok (.istore 4, 2) := by decide +kernel
theorem dX10_lay_27 : decode cX10_lay 27 = .ok (.iload 4, 2) := by decide +kernel
theorem dX10_lay_29 : decode cX10_lay 29 = .ok (.aload_n 0, 1) := by decide +kernel
theorem dX10_lay_30 : decode cX10_lay 30 = .ok (.getfield 51, 3) := by decide +kernel
theorem dX10_lay_33 : decode cX10_lay 33 = .ok (.getfield 218, 3) := by decide +kernel
theorem dX10_lay_36 : decode cX10_lay 36 = .ok (.getfield 55, 3) := by decide +kernel
theorem dX10_lay_39 : decode cX10_lay 39 = .ok (.if_icmp .ge 40, 3) := by decide +kernel
theorem dX10_lay_42 : decode cX10_lay 42 = .ok (.aload_n 3, 1) := by decide +kernel
theorem dX10_lay_43 : decode cX10_lay 43 = .ok (.iload_n 2, 1) := by decide +kernel
theorem dX10_lay_44 : decode cX10_lay 44 = .ok (.iload 4, 2) := by decide +kernel
theorem dX10_lay_46 : decode cX10_lay 46 = .ok (.iadd, 1) := by decide +kernel
theorem dX10_lay_47 : decode cX10_lay 47 = .ok (.invokevirtual 88, 3) := by decide +kernel
theorem dX10_lay_50 : decode cX10_lay 50 = .ok (.ifCond .eq 29, 3) := by decide +kernel
theorem dX10_lay_53 : decode cX10_lay 53 = .ok (.aload_n 3, 1) := by decide +kernel
theorem dX10_lay_54 : decode cX10_lay 54 = .ok (.iload_n 2, 1) := by decide +kernel
theorem dX10_lay_55 : decode cX10_lay 55 = .ok (.iload 4, 2) := by decide +kernel
theorem dX10_lay_57 : decode cX10_lay 57 = .ok (.iadd, 1) := by decide +kernel
theorem dX10_lay_58 : decode cX10_lay 58 = .ok (.aload_n 0, 1) := by decide +kernel
theorem dX10_lay_59 : decode cX10_lay 59 = .ok (.getfield 51, 3) := by decide +kernel
theorem dX10_lay_62 : decode cX10_lay 62 = .ok (.getfield 218, 3) := by decide +kernel
theorem dX10_lay_65 : decode cX10_lay 65 = .ok (.iload 4, 2) := by decide +kernel
theorem dX10_lay_67 : decode cX10_lay 67 = .ok (.invokevirtual 91, 3) := by decide +kernel
theorem dX10_lay_70 : decode cX10_lay 70 = .ok (.invokevirtual 150, 3) := by decide +kernel
theorem dX10_lay_73 : decode cX10_lay 73 = .ok (.iinc 4 1, 3) := by decide +kernel
theorem dX10_lay_76 : decode cX10_lay 76 = .ok (.goto (-49), 3) := by decide +kernel
theorem dX10_lay_79 : decode cX10_lay 79 = .ok (.iload 4, 2) := by decide +kernel
theorem dX10_lay_81 : decode cX10_lay 81 = .ok (.aload_n 0, 1) := by decide +kernel
theorem dX10_lay_82 : decode cX10_lay 82 = .ok (.getfield 51, 3) := by decide +kernel
theorem dX10_lay_85 : decode cX10_lay 85 = .ok (.getfield 218, 3) := by decide +kernel
theorem dX10_lay_88 : decode cX10_lay 88 = .ok (.getfield 55, 3) := by decide +kernel
theorem dX10_lay_91 : decode cX10_lay 91 = .ok (.if_icmp .ge 8, 3) := by decide +kernel
theorem dX10_lay_94 : decode cX10_lay 94 = .ok (.bipush (-13), 2) := by decide +kernel
theorem dX10_lay_96 : decode cX10_lay 96 = .ok (.goto 5, 3) := by decide +kernel
theorem dX10_lay_99 : decode cX10_lay 99 = .ok (.iload 4, 2) := by decide +kernel
theorem dX10_lay_101 : decode cX10_lay 101 = .ok (.ireturn, 1) := by decide +kernel
theorem dX10_judge_0 : decode cX10_judge 0 = .ok (.aload_n 0, 1) := by decide +kernel
theorem dX10_judge_1 : decode cX10_judge 1 = .ok (.iload_n 1, 1) := by decide +kernel
theorem dX10_judge_2 : decode cX10_judge 2 = .ok (.invokevirtual 286, 3) := by decide +kernel
theorem dX10_judge_5 : decode cX10_judge 5 = .ok (.astore_n 3, 1) := by decide +kernel
theorem dX10_judge_6 : decode cX10_judge 6 = .ok (.aload_n 3, 1) := by decide +kernel
theorem dX10_judge_7 : decode cX10_judge 7 = .ok (.ifnonnull 5, 3) := by decide +kernel
theorem dX10_judge_10 : decode cX10_judge 10 = .ok (.iconst (-1), 1) := by decide +kernel
theorem dX10_judge_11 : decode cX10_judge 11 = .ok (.ireturn, 1) := by decide +kernel
theorem dX10_judge_12 : decode cX10_judge 12 = .ok (.aload_n 3, 1) := by decide +kernel
theorem dX10_judge_13 : decode cX10_judge 13 = .ok (.getfield 55, 3) := by decide +kernel
theorem dX10_judge_16 : decode cX10_judge 16 = .ok (.bipush (-11), 2) := by decide +kernel
theorem dX10_judge_18 : decode cX10_judge 18 = .ok (.if_icmp .ne 6, 3) := by decide +kernel
theorem dX10_judge_21 : decode cX10_judge 21 = .ok (.bipush (-11), 2) := by decide +kernel
theorem dX10_judge_23 : decode cX10_judge 23 = .ok (.ireturn, 1) := by decide +kernel
theorem dX10_judge_24 : decode cX10_judge 24 = .ok (.iconst 0, 1) := by decide +kernel
theorem dX10_judge_25 : decode cX10_judge 25 = .ok (.istore 4, 2) := by decide +kernel
theorem dX10_judge_27 : decode cX10_judge 27 = .ok (.iload 4, 2) := by decide +kernel
theorem dX10_judge_29 : decode cX10_judge 29 = .ok (.aload_n 0, 1) := by decide +kernel
theorem dX10_judge_30 : decode cX10_judge 30 = .ok (.getfield 51, 3) := by decide +kernel
theorem dX10_judge_33 : decode cX10_judge 33 = .ok (.getfield 218, 3) := by decide +kernel
theorem dX10_judge_36 : decode cX10_judge 36 = .ok (.getfield 55, 3) := by decide +kernel
theorem dX10_judge_39 : decode cX10_judge 39 = .ok (.if_icmp .ge 63, 3) := by decide +kernel
theorem dX10_judge_42 : decode cX10_judge 42 = .ok (.aload_n 3, 1) := by decide +kernel
theorem dX10_judge_43 : decode cX10_judge 43 = .ok (.iload_n 2, 1) := by decide +kernel
theorem dX10_judge_44 : decode cX10_judge 44 = .ok (.iload 4, 2) := by decide +kernel
theorem dX10_judge_46 : decode cX10_judge 46 = .ok (.iadd, 1) := by decide +kernel
theorem dX10_judge_47 : decode cX10_judge 47 = .ok (.invokevirtual 88, 3) := by decide +kernel
theorem dX10_judge_50 : decode cX10_judge 50 = .ok (.ifCond .ne 10, 3) := by decide +kernel
theorem dX10_judge_53 : decode cX10_judge 53 = .ok (.sipush 200, 3) := by decide +kernel
theorem dX10_judge_56 : decode cX10_judge 56 = .ok (.iload 4, 2) := by decide +kernel
theorem dX10_judge_58 : decode cX10_judge 58 = .ok (.iadd, 1) := by decide +kernel
theorem dX10_judge_59 : decode cX10_judge 59 = .ok (.ireturn, 1) := by decide +kernel
theorem dX10_judge_60 : decode cX10_judge 60 = .ok (.aload_n 3, 1) := by decide +kernel
theorem dX10_judge_61 : decode cX10_judge 61 = .ok (.iload_n 2, 1) := by decide +kernel
theorem dX10_judge_62 : decode cX10_judge 62 = .ok (.iload 4, 2) := by decide +kernel
theorem dX10_judge_64 : decode cX10_judge 64 = .ok (.iadd, 1) := by decide +kernel
theorem dX10_judge_65 : decode cX10_judge 65 = .ok (.invokevirtual 91, 3) := by decide +kernel
theorem dX10_judge_68 : decode cX10_judge 68 = .ok (.aload_n 0, 1) := by decide +kernel
theorem dX10_judge_69 : decode cX10_judge 69 = .ok (.getfield 51, 3) := by decide +kernel
theorem dX10_judge_72 : decode cX10_judge 72 = .ok (.getfield 218, 3) := by decide +kernel
theorem dX10_judge_75 : decode cX10_judge 75 = .ok (.iload 4, 2) := by decide +kernel
theorem dX10_judge_77 : decode cX10_judge 77 = .ok (.invokevirtual 91, 3) := by decide +kernel
theorem dX10_judge_80 : decode cX10_judge 80 = .ok (.if_icmp .eq 16, 3) := by decide +kernel
theorem dX10_judge_83 : decode cX10_judge 83 = .ok (.aload_n 0, 1) := by decide +kernel
theorem dX10_judge_84 : decode cX10_judge 84 = .ok (.getfield 51, 3) := by decide +kernel
theorem dX10_judge_87 : decode cX10_judge 87 = .ok (.getfield 218, 3) := by decide +kernel
theorem dX10_judge_90 : decode cX10_judge 90 = .ok (.iload 4, 2) := by decide +kernel
theorem dX10_judge_92 : decode cX10_judge 92 = .ok (.invokevirtual 91, 3) := by decide +kernel
theorem dX10_judge_95 : decode cX10_judge 95 = .ok (.ireturn, 1) := by decide +kernel
theorem dX10_judge_96 : decode cX10_judge 96 = .ok (.iinc 4 1, 3) := by decide +kernel
theorem dX10_judge_99 : decode cX10_judge 99 = .ok (.goto (-72), 3) := by decide +kernel
theorem dX10_judge_102 : decode cX10_judge 102 = .ok (.bipush (-5), 2) := by decide +kernel
theorem dX10_judge_104 : decode cX10_judge 104 = .ok (.ireturn, 1) := by decide +kernel
theorem dX10_image_0 : decode cX10_image 0 = .ok (.aload_n 0, 1) := by decide +kernel
theorem dX10_image_1 : decode cX10_image 1 = .ok (.getfield 306, 3) := by decide +kernel
theorem dX10_image_4 : decode cX10_image 4 = .ok (.ifnonnull 14, 3) := by decide +kernel
theorem dX10_image_7 : decode cX10_image 7 = .ok (.aload_n 0, 1) := by decide +kernel
theorem dX10_image_8 : decode cX10_image 8 = .ok (.new 64, 3) := by decide +kernel
theorem dX10_image_11 : decode cX10_image 11 = .ok (.dup, 1) := by decide +kernel
theorem dX10_image_12 : decode cX10_image 12 = .ok (.invokespecial 309, 3) := by decide +kernel
theorem dX10_image_15 : decode cX10_image 15 = .ok (.putfield 306, 3) := by decide +kernel
theorem dX10_image_18 : decode cX10_image 18 = .ok (.aload_n 0, 1) := by decide +kernel
theorem dX10_image_19 : decode cX10_image 19 = .ok (.getfield 306, 3) := by decide +kernel
theorem dX10_image_22 : decode cX10_image 22 = .ok (.aload_n 0, 1) := by decide +kernel
theorem dX10_image_23 : decode cX10_image 23 = .ok (.getfield 51, 3) := by decide +kernel
theorem dX10_image_26 : decode cX10_image 26 = .ok (.invokevirtual 310, 3) := by decide +kernel
theorem dX10_image_29 : decode cX10_image 29 = .ok (.aload_n 0, 1) := by decide +kernel
theorem dX10_image_30 : decode cX10_image 30 = .ok (.getfield 51, 3) := by decide +kernel
theorem dX10_image_33 : decode cX10_image 33 = .ok (.iconst 0, 1) := by decide +kernel
theorem dX10_image_34 : decode cX10_image 34 = .ok (.invokevirtual 158, 3) := by decide +kernel
theorem dX10_image_37 : decode cX10_image 37 = .ok (.ireturn, 1) := by decide +kernel
theorem dX10_undo_0 : decode cX10_undo 0 = .ok (.aload_n 0, 1) := by decide +kernel
theorem dX10_undo_1 : decode cX10_undo 1 = .ok (.getfield 306, 3) := by decide +kernel
theorem dX10_undo_4 : decode cX10_undo 4 = .ok (.ifnonnull 6, 3) := by decide +kernel
theorem dX10_undo_7 : decode cX10_undo 7 = .ok (.bipush (-3), 2) := by decide +kernel
theorem dX10_undo_9 : decode cX10_undo 9 = .ok (.ireturn, 1) := by decide +kernel
theorem dX10_undo_10 : decode cX10_undo 10 = .ok (.aload_n 0, 1) := by decide +kernel
theorem dX10_undo_11 : decode cX10_undo 11 = .ok (.getfield 51, 3) := by decide +kernel
theorem dX10_undo_14 : decode cX10_undo 14 = .ok (.aload_n 0, 1) := by decide +kernel
theorem dX10_undo_15 : decode cX10_undo 15 = .ok (.getfield 306, 3) := by decide +kernel
theorem dX10_undo_18 : decode cX10_undo 18 = .ok (.invokevirtual 310, 3) := by decide +kernel
theorem dX10_undo_21 : decode cX10_undo 21 = .ok (.aload_n 0, 1) := by decide +kernel
theorem dX10_undo_22 : decode cX10_undo 22 = .ok (.getfield 51, 3) := by decide +kernel
theorem dX10_undo_25 : decode cX10_undo 25 = .ok (.iconst 0, 1) := by decide +kernel
theorem dX10_undo_26 : decode cX10_undo 26 = .ok (.invokevirtual 158, 3) := by decide +kernel
theorem dX10_undo_29 : decode cX10_undo 29 = .ok (.ireturn, 1) := by decide +kernel
theorem dX10_thinkerOfNow_0 : decode cX10_thinkerOfNow 0 = .ok (.aload_n 0, 1) := by decide +kernel
theorem dX10_thinkerOfNow_1 : decode cX10_thinkerOfNow 1 = .ok (.getfield 314, 3) := by decide +kernel
theorem dX10_thinkerOfNow_4 : decode cX10_thinkerOfNow 4 = .ok (.ifnonnull 14, 3) := by decide +kernel
theorem dX10_thinkerOfNow_7 : decode cX10_thinkerOfNow 7 = .ok (.aload_n 0, 1) := by decide +kernel
theorem dX10_thinkerOfNow_8 : decode cX10_thinkerOfNow 8 = .ok (.new 40, 3) := by decide +kernel
theorem dX10_thinkerOfNow_11 : decode cX10_thinkerOfNow 11 = .ok (.dup, 1) := by decide +kernel
theorem dX10_thinkerOfNow_12 : decode cX10_thinkerOfNow 12 = .ok (.invokespecial 42, 3) := by decide +kernel
theorem dX10_thinkerOfNow_15 : decode cX10_thinkerOfNow 15 = .ok (.putfield 314, 3) := by decide +kernel
theorem dX10_thinkerOfNow_18 : decode cX10_thinkerOfNow 18 = .ok (.aload_n 0, 1) := by decide +kernel
theorem dX10_thinkerOfNow_19 : decode cX10_thinkerOfNow 19 = .ok (.getfield 314, 3) := by decide +kernel
theorem dX10_thinkerOfNow_22 : decode cX10_thinkerOfNow 22 = .ok (.getfield 47, 3) := by decide +kernel
theorem dX10_thinkerOfNow_25 : decode cX10_thinkerOfNow 25 = .ok (.aload_n 0, 1) := by decide +kernel
theorem dX10_thinkerOfNow_26 : decode cX10_thinkerOfNow 26 = .ok (.getfield 51, 3) := by decide +kernel
theorem dX10_thinkerOfNow_29 : decode cX10_thinkerOfNow 29 = .ok (.invokevirtual 310, 3) := by decide +kernel
theorem dX10_thinkerOfNow_32 : decode cX10_thinkerOfNow 32 = .ok (.aload_n 0, 1) := by decide +kernel
theorem dX10_thinkerOfNow_33 : decode cX10_thinkerOfNow 33 = .ok (.getfield 314, 3) := by decide +kernel
theorem dX10_thinkerOfNow_36 : decode cX10_thinkerOfNow 36 = .ok (.areturn, 1) := by decide +kernel
theorem dX10_rowAt_0 : decode cX10_rowAt 0 = .ok (.iload_n 1, 1) := by decide +kernel
theorem dX10_rowAt_1 : decode cX10_rowAt 1 = .ok (.ifCond .lt 12, 3) := by decide +kernel
theorem dX10_rowAt_4 : decode cX10_rowAt 4 = .ok (.iload_n 1, 1) := by decide +kernel
theorem dX10_rowAt_5 : decode cX10_rowAt 5 = .ok (.aload_n 0, 1) := by decide +kernel
theorem dX10_rowAt_6 : decode cX10_rowAt 6 = .ok (.getfield 36, 3) := by decide +kernel
theorem dX10_rowAt_9 : decode cX10_rowAt 9 = .ok (.arraylength, 1) := by decide +kernel
theorem dX10_rowAt_10 : decode cX10_rowAt 10 = .ok (.if_icmp .lt 7, 3) := by decide +kernel
theorem dX10_rowAt_13 : decode cX10_rowAt 13 = .ok (.aconst_null, 1) := by decide +kernel
theorem dX10_rowAt_14 : decode cX10_rowAt 14 = .ok (.goto 9, 3) := by decide +kernel
theorem dX10_rowAt_17 : decode cX10_rowAt 17 = .ok (.aload_n 0, 1) := by decide +kernel
theorem dX10_rowAt_18 : decode cX10_rowAt 18 = .ok (.getfield 36, 3) := by decide +kernel
theorem dX10_rowAt_21 : decode cX10_rowAt 21 = .ok (.iload_n 1, 1) := by decide +kernel
theorem dX10_rowAt_22 : decode cX10_rowAt 22 = .ok (.aaload, 1) := by decide +kernel
theorem dX10_rowAt_23 : decode cX10_rowAt 23 = .ok (.areturn, 1) := by decide +kernel
theorem dX10_mayBePriority_0 : decode cX10_mayBePriority 0 = .ok (.iload_n 0, 1) := by decide +kernel
theorem dX10_mayBePriority_1 : decode cX10_mayBePriority 1 = .ok (.bipush (-99), 2) := by decide +kernel
theorem dX10_mayBePriority_3 : decode cX10_mayBePriority 3 = .ok (.if_icmp .lt 13, 3) := by decide +kernel
theorem dX10_mayBePriority_6 : decode cX10_mayBePriority 6 = .ok (.iload_n 0, 1) := by decide +kernel
theorem dX10_mayBePriority_7 : decode cX10_mayBePriority 7 = .ok (.bipush 99, 2) := by decide +kernel
theorem dX10_mayBePriority_9 : decode cX10_mayBePriority 9 = .ok (.if_icmp .gt 7, 3) := by decide +kernel
theorem dX10_mayBePriority_12 : decode cX10_mayBePriority 12 = .ok (.iconst 1, 1) := by decide +kernel
theorem dX10_mayBePriority_13 : decode cX10_mayBePriority 13 = .ok (.goto 4, 3) := by decide +kernel
theorem dX10_mayBePriority_16 : decode cX10_mayBePriority 16 = .ok (.iconst 0, 1) := by decide +kernel
theorem dX10_mayBePriority_17 : decode cX10_mayBePriority 17 = .ok (.ireturn, 1) := by decide +kernel
theorem dX10_stepsFrom_0 : decode cX10_stepsFrom 0 = .ok (.iconst 0, 1) := by decide +kernel
theorem dX10_stepsFrom_1 : decode cX10_stepsFrom 1 = .ok (.istore_n 1, 1) := by decide +kernel
theorem dX10_stepsFrom_2 : decode cX10_stepsFrom 2 = .ok (.aload_n 0, 1) := by decide +kernel
theorem dX10_stepsFrom_3 : decode cX10_stepsFrom 3 = .ok (.astore_n 2, 1) := by decide +kernel
theorem dX10_stepsFrom_4 : decode cX10_stepsFrom 4 = .ok (.aload_n 2, 1) := by decide +kernel
theorem dX10_stepsFrom_5 : decode cX10_stepsFrom 5 = .ok (.ifnull 14, 3) := by decide +kernel
theorem dX10_stepsFrom_8 : decode cX10_stepsFrom 8 = .ok (.iinc 1 1, 3) := by decide +kernel
theorem dX10_stepsFrom_11 : decode cX10_stepsFrom 11 = .ok (.aload_n 2, 1) := by decide +kernel
theorem dX10_stepsFrom_12 : decode cX10_stepsFrom 12 = .ok (.getfield 317, 3) := by decide +kernel
theorem dX10_stepsFrom_15 : decode cX10_stepsFrom 15 = .ok (.astore_n 2, 1) := by decide +kernel
theorem dX10_stepsFrom_16 : decode cX10_stepsFrom 16 = .ok (.goto (-12), 3) := by decide +kernel
theorem dX10_stepsFrom_19 : decode cX10_stepsFrom 19 = .ok (.iload_n 1, 1) := by decide +kernel
theorem dX10_stepsFrom_20 : decode cX10_stepsFrom 20 = .ok (.ireturn, 1) := by decide +kernel
theorem dX10_letterOf_0 : decode cX10_letterOf 0 = .ok (.iload_n 2, 1) := by decide +kernel
theorem dX10_letterOf_1 : decode cX10_letterOf 1 = .ok (.ifCond .lt 9, 3) := by decide +kernel
theorem dX10_letterOf_4 : decode cX10_letterOf 4 = .ok (.iload_n 2, 1) := by decide +kernel
theorem dX10_letterOf_5 : decode cX10_letterOf 5 = .ok (.bipush 7, 2) := by decide +kernel
theorem dX10_letterOf_7 : decode cX10_letterOf 7 = .ok (.if_icmp .lt 5, 3) := by decide +kernel
theorem dX10_letterOf_10 : decode cX10_letterOf 10 = .ok (.iconst 0, 1) := by decide +kernel
theorem dX10_letterOf_11 : decode cX10_letterOf 11 = .ok (.ireturn, 1) := by decide +kernel
theorem dX10_letterOf_12 : decode cX10_letterOf 12 = .ok (.lload_n 0, 1) := by decide +kernel
theorem dX10_letterOf_13 : decode cX10_letterOf 13 = .ok (.iconst 5, 1) := by decide +kernel
theorem dX10_letterOf_14 : decode cX10_letterOf 14 = .ok (.bipush 6, 2) := by decide +kernel
theorem dX10_letterOf_16 : decode cX10_letterOf 16 = .ok (.iload_n 2, 1) := by decide +kernel
theorem dX10_letterOf_17 : decode cX10_letterOf 17 = .ok (.isub, 1) := by decide +kernel
theorem dX10_letterOf_18 : decode cX10_letterOf 18 = .ok (.imul, 1) := by decide +kernel
theorem dX10_letterOf_19 : decode cX10_letterOf 19 = .ok (.lshr, 1) := by decide +kernel
theorem dX10_letterOf_20 : decode cX10_letterOf 20 = .ok (.l2i, 1) := by decide +kernel
theorem dX10_letterOf_21 : decode cX10_letterOf 21 = .ok (.bipush 31, 2) := by decide +kernel
theorem dX10_letterOf_23 : decode cX10_letterOf 23 = .ok (.iand, 1) := by decide +kernel
theorem dX10_letterOf_24 : decode cX10_letterOf 24 = .ok (.istore_n 3, 1) := by decide +kernel
theorem dX10_letterOf_25 : decode cX10_letterOf 25 = .ok (.iload_n 3, 1) := by decide +kernel
theorem dX10_letterOf_26 : decode cX10_letterOf 26 = .ok (.ifCond .ne 7, 3) := by decide +kernel
theorem dX10_letterOf_29 : decode cX10_letterOf 29 = .ok (.iconst 0, 1) := by decide +kernel
theorem dX10_letterOf_30 : decode cX10_letterOf 30 = .ok (.goto 9, 3) := by decide +kernel
theorem dX10_letterOf_33 : decode cX10_letterOf 33 = .ok (.iload_n 3, 1) := by decide +kernel
theorem dX10_letterOf_34 : decode cX10_letterOf 34 = .ok (.bipush 97, 2) := by decide +kernel
theorem dX10_letterOf_36 : decode cX10_letterOf 36 = .ok (.iadd, 1) := by decide +kernel
theorem dX10_letterOf_37 : decode cX10_letterOf 37 = .ok (.iconst 1, 1) := by decide +kernel
theorem dX10_letterOf_38 : decode cX10_letterOf 38 = .ok (.isub, 1) := by decide +kernel
theorem dX10_letterOf_39 : decode cX10_letterOf 39 = .ok (.ireturn, 1) := by decide +kernel
theorem dX10_lettersOf_0 : decode cX10_lettersOf 0 = .ok (.iconst 0, 1) := by decide +kernel
theorem dX10_lettersOf_1 : decode cX10_lettersOf 1 = .ok (.istore_n 2, 1) := by decide +kernel
theorem dX10_lettersOf_2 : decode cX10_lettersOf 2 = .ok (.iload_n 2, 1) := by decide +kernel
theorem dX10_lettersOf_3 : decode cX10_lettersOf 3 = .ok (.bipush 7, 2) := by decide +kernel
theorem dX10_lettersOf_5 : decode cX10_lettersOf 5 = .ok (.if_icmp .ge 17, 3) := by decide +kernel
theorem dX10_lettersOf_8 : decode cX10_lettersOf 8 = .ok (.lload_n 0, 1) := by decide +kernel
theorem dX10_lettersOf_9 : decode cX10_lettersOf 9 = .ok (.iload_n 2, 1) := by decide +kernel
theorem dX10_lettersOf_10 : decode cX10_lettersOf 10 = .ok (.invokestatic 190, 3) := by decide +kernel
theorem dX10_lettersOf_13 : decode cX10_lettersOf 13 = .ok (.ifCond .eq 9, 3) := by decide +kernel
theorem dX10_lettersOf_16 : decode cX10_lettersOf 16 = .ok (.iinc 2 1, 3) := by decide +kernel
theorem dX10_lettersOf_19 : decode cX10_lettersOf 19 = .ok (.goto (-17), 3) := by decide +kernel
theorem dX10_lettersOf_22 : decode cX10_lettersOf 22 = .ok (.iload_n 2, 1) := by decide +kernel
theorem dX10_lettersOf_23 : decode cX10_lettersOf 23 = .ok (.ireturn, 1) := by decide +kernel
theorem dX11_init_0 : decode cX11_init 0 = .ok (.aload_n 0, 1) := by decide +kernel
theorem dX11_init_1 : decode cX11_init 1 = .ok (.invokespecial 5, 3) := by decide +kernel
theorem dX11_init_4 : decode cX11_init 4 = .ok (.aload_n 0, 1) := by decide +kernel
theorem dX11_init_5 : decode cX11_init 5 = .ok (.sipush 2928, 3) := by decide +kernel
theorem dX11_init_8 : decode cX11_init 8 = .ok (.newarray .int, 2) := by decide +kernel
theorem dX11_init_10 : decode cX11_init 10 = .ok (.putfield 11, 3) := by decide +kernel
theorem dX11_init_13 : decode cX11_init 13 = .ok (.aload_n 0, 1) := by decide +kernel
theorem dX11_init_14 : decode cX11_init 14 = .ok (.sipush 2928, 3) := by decide +kernel
theorem dX11_init_17 : decode cX11_init 17 = .ok (.newarray .int, 2) := by decide +kernel
theorem dX11_init_19 : decode cX11_init 19 = .ok (.putfield 15, 3) := by decide +kernel
theorem dX11_init_22 : decode cX11_init 22 = .ok (.aload_n 0, 1) := by decide +kernel
theorem dX11_init_23 : decode cX11_init 23 = .ok (.sipush 2928, 3) := by decide +kernel
theorem dX11_init_26 : decode cX11_init 26 = .ok (.newarray .int, 2) := by decide +kernel
theorem dX11_init_28 : decode cX11_init 28 = .ok (.putfield 18, 3) := by decide +kernel
theorem dX11_init_31 : decode cX11_init 31 = .ok (.aload_n 0, 1) := by decide +kernel
theorem dX11_init_32 : decode cX11_init 32 = .ok (.sipush 12342, 3) := by decide +kernel
theorem dX11_init_35 : decode cX11_init 35 = .ok (.newarray .int, 2) := by decide +kernel
theorem dX11_init_37 : decode cX11_init 37 = .ok (.putfield 21, 3) := by decide +kernel
theorem dX11_init_40 : decode cX11_init 40 = .ok (.aload_n 0, 1) := by decide +kernel
theorem dX11_init_41 : decode cX11_init 41 = .ok (.bipush 120, 2) := by decide +kernel
theorem dX11_init_43 : decode cX11_init 43 = .ok (.newarray .int, 2) := by decide +kernel
theorem dX11_init_45 : decode cX11_init 45 = .ok (.putfield 24, 3) := by decide +kernel
theorem dX11_init_48 : decode cX11_init 48 = .ok (.aload_n 0, 1) := by decide +kernel
theorem dX11_init_49 : decode cX11_init 49 = .ok (.aload_n 0, 1) := by decide +kernel
theorem dX11_init_50 : decode cX11_init 50 = .ok (.getfield 24, 3) := by decide +kernel
theorem dX11_init_53 : decode cX11_init 53 = .ok (.putfield 27, 3) := by decide +kernel
theorem dX11_init_56 : decode cX11_init 56 = .ok (.aload_n 0, 1) := by decide +kernel
theorem dX11_init_57 : decode cX11_init 57 = .ok (.bipush 90, 2) := by decide +kernel
theorem dX11_init_59 : decode cX11_init 59 = .ok (.newarray .int, 2) := by decide +kernel
theorem dX11_init_61 : decode cX11_init 61 = .ok (.putfield 30, 3) := by decide +kernel
theorem dX11_init_64 : decode cX11_init 64 = .ok (.aload_n 0, 1) := by decide +kernel
theorem dX11_init_65 : decode cX11_init 65 = .ok (.bipush 120, 2) := by decide +kernel
theorem dX11_init_67 : decode cX11_init 67 = .ok (.newarray .int, 2) := by decide +kernel
theorem dX11_init_69 : decode cX11_init 69 = .ok (.putfield 33, 3) := by decide +kernel
theorem dX11_init_72 : decode cX11_init 72 = .ok (.aload_n 0, 1) := by decide +kernel
theorem dX11_init_73 : decode cX11_init 73 = .ok (.iconst 4, 1) := by decide +kernel
theorem dX11_init_74 : decode cX11_init 74 = .ok (.newarray .int, 2) := by decide +kernel
theorem dX11_init_76 : decode cX11_init 76 = .ok (.dup, 1) := by decide +kernel
theorem dX11_init_77 : decode cX11_init 77 = .ok (.iconst 0, 1) := by decide +kernel
theorem dX11_init_78 : decode cX11_init 78 = .ok (.iconst (-1), 1) := by decide +kernel
theorem dX11_init_79 : decode cX11_init 79 = .ok (.iastore, 1) := by decide +kernel
theorem dX11_init_80 : decode cX11_init 80 = .ok (.dup, 1) := by decide +kernel
theorem dX11_init_81 : decode cX11_init 81 = .ok (.iconst 1, 1) := by decide +kernel
theorem dX11_init_82 : decode cX11_init 82 = .ok (.iconst (-1), 1) := by decide +kernel
theorem dX11_init_83 : decode cX11_init 83 = .ok (.iastore, 1) := by decide +kernel
theorem dX11_init_84 : decode cX11_init 84 = .ok (.dup, 1) := by decide +kernel
theorem dX11_init_85 : decode cX11_init 85 = .ok (.iconst 2, 1) := by decide +kernel
theorem dX11_init_86 : decode cX11_init 86 = .ok (.iconst (-1), 1) := by decide +kernel
theorem dX11_init_87 : decode cX11_init 87 = .ok (.iastore, 1) := by decide +kernel
theorem dX11_init_88 : decode cX11_init 88 = .ok (.dup, 1) := by decide +kernel
theorem dX11_init_89 : decode cX11_init 89 = .ok (.iconst 3, 1) := by decide +kernel
theorem dX11_init_90 : decode cX11_init 90 = .ok (.iconst (-1), 1) := by decide +kernel
theorem dX11_init_91 : decode cX11_init 91 = .ok (.iastore, 1) := by decide +kernel
theorem dX11_init_92 : decode cX11_init 92 = .ok (.putfield 36, 3) := by decide +kernel
theorem dX11_init_95 : decode cX11_init 95 = .ok (.aload_n 0, 1) := by decide +kernel
theorem dX11_init_96 : decode cX11_init 96 = .ok (.sipush 160, 3) := by decide +kernel
theorem dX11_init_99 : decode cX11_init 99 = .ok (.newarray .int, 2) := by decide +kernel
theorem dX11_init_101 : decode cX11_init 101 = .ok (.putfield 39, 3) := by decide +kernel
theorem dX11_init_104 : decode cX11_init 104 = .ok (.aload_n 0, 1) := by decide +kernel
theorem dX11_init_105 : decode cX11_init 105 = .ok (.getfield 11, 3) := by decide +kernel
theorem dX11_init_108 : decode cX11_init 108 = .ok (.iconst 0, 1) := by decide +kernel
theorem dX11_init_109 : decode cX11_init 109 = .ok (.iconst 1, 1) := by decide +kernel
theorem dX11_init_110 : decode cX11_init 110 = .ok (.iastore, 1) := by decide +kernel
theorem dX11_init_111 : decode cX11_init 111 = .ok (.aload_n 0, 1) := by decide +kernel
theorem dX11_init_112 : decode cX11_init 112 = .ok (.getfield 11, 3) := by decide +kernel
theorem dX11_init_115 : decode cX11_init 115 = .ok (.iconst 0, 1) := by decide +kernel
theorem dX11_init_116 : decode cX11_init 116 = .ok (.iconst 1, 1) := by decide +kernel
theorem dX11_init_117 : decode cX11_init 117 = .ok (.invokestatic 42, 3) := by decide +kernel
theorem dX11_init_120 : decode cX11_init 120 = .ok (.bipush (-5), 2) := by decide +kernel
theorem dX11_init_122 : decode cX11_init 122 = .ok (.iastore, 1) := by decide +kernel
theorem dX11_init_123 : decode cX11_init 123 = .ok (.aload_n 0, 1) := by decide +kernel
theorem dX11_init_124 : decode cX11_init 124 = .ok (.getfield 11, 3) := by decide +kernel
theorem dX11_init_127 : decode cX11_init 127 = .ok (.iconst 0, 1) := by decide +kernel
theorem dX11_init_128 : decode cX11_init 128 = .ok (.iconst 3, 1) := by decide +kernel
theorem dX11_init_129 : decode cX11_init 129 = .ok (.invokestatic 42, 3) := by decide +kernel
theorem dX11_init_132 : decode cX11_init 132 = .ok (.bipush (-5), 2) := by decide +kernel
theorem dX11_init_134 : decode cX11_init 134 = .ok (.iastore, 1) := by decide +kernel
theorem dX11_init_135 : decode cX11_init 135 = .ok (.return_, 1) := by decide +kernel
theorem dX11_isIn_0 : decode cX11_isIn 0 = .ok (.iload_n 0, 1) := by decide +kernel
theorem dX11_isIn_1 : decode cX11_isIn 1 = .ok (.iload_n 1, 1) := by decide +kernel
theorem dX11_isIn_2 : decode cX11_isIn 2 = .ok (.if_icmp .lt 12, 3) := by decide +kernel
theorem dX11_isIn_5 : decode cX11_isIn 5 = .ok (.iload_n 0, 1) := by decide +kernel
theorem dX11_isIn_6 : decode cX11_isIn 6 = .ok (.iload_n 2, 1) := by decide +kernel
theorem dX11_isIn_7 : decode cX11_isIn 7 = .ok (.if_icmp .gt 7, 3) := by decide +kernel
theorem dX11_isIn_10 : decode cX11_isIn 10 = .ok (.iconst 1, 1) := by decide +kernel
theorem dX11_isIn_11 : decode cX11_isIn 11 = .ok (.goto 4, 3) := by decide +kernel
theorem dX11_isIn_14 : decode cX11_isIn 14 = .ok (.iconst 0, 1) := by decide +kernel
theorem dX11_isIn_15 : decode cX11_isIn 15 = .ok (.ireturn, 1) := by decide +kernel
theorem dX11_ofScope_0 : decode cX11_ofScope 0 = .ok (.bipush 18, 2) := by decide +kernel
theorem dX11_ofScope_2 : decode cX11_ofScope 2 = .ok (.iconst 4, 1) := by decide +kernel
theorem dX11_ofScope_3 : decode cX11_ofScope 3 = .ok (.iload_n 0, 1) := by decide +kernel
theorem dX11_ofScope_4 : decode cX11_ofScope 4 = .ok (.imul, 1) := by decide +kernel
theorem dX11_ofScope_5 : decode cX11_ofScope 5 = .ok (.iadd, 1) := by decide +kernel
theorem dX11_ofScope_6 : decode cX11_ofScope 6 = .ok (.iload_n 1, 1) := by decide +kernel
theorem dX11_ofScope_7 : decode cX11_ofScope 7 = .ok (.iadd, 1) := by decide +kernel
theorem dX11_ofScope_8 : decode cX11_ofScope 8 = .ok (.ireturn, 1) := by decide +kernel
theorem dX11_ofThing_0 : decode cX11_ofThing 0 = .ok (.sipush 258, 3) := by decide +kernel
theorem dX11_ofThing_3 : decode cX11_ofThing 3 = .ok (.bipush 14, 2) := by decide +kernel
theorem dX11_ofThing_5 : decode cX11_ofThing 5 = .ok (.iload_n 0, 1) := by decide +kernel
theorem dX11_ofThing_6 : decode cX11_ofThing 6 = .ok (.imul, 1) := by decide +kernel
theorem dX11_ofThing_7 : decode cX11_ofThing 7 = .ok (.iadd, 1) := by decide +kernel
theorem dX11_ofThing_8 : decode cX11_ofThing 8 = .ok (.iload_n 1, 1) := by decide +kernel
theorem dX11_ofThing_9 : decode cX11_ofThing 9 = .ok (.iadd, 1) := by decide +kernel
theorem dX11_ofThing_10 : decode cX11_ofThing 10 = .ok (.iload_n 2, 1) := by decide +kernel
theorem dX11_ofThing_11 : decode cX11_ofThing 11 = .ok (.iadd, 1) := by decide +kernel
theorem dX11_ofThing_12 : decode cX11_ofThing 12 = .ok (.ireturn, 1) := by decide +kernel
theorem dX11_ofTask_0 : decode cX11_ofTask 0 = .ok (.sipush 1608, 3) := by decide +kernel
theorem dX11_ofTask_3 : decode cX11_ofTask 3 = .ok (.bipush 72, 2) := by decide +kernel
theorem dX11_ofTask_5 : decode cX11_ofTask 5 = .ok (.iload_n 0, 1) := by decide +kernel
theorem dX11_ofTask_6 : decode cX11_ofTask 6 = .ok (.imul, 1) := by decide +kernel
theorem dX11_ofTask_7 : decode cX11_ofTask 7 = .ok (.iadd, 1) := by decide +kernel
theorem dX11_ofTask_8 : decode cX11_ofTask 8 = .ok (.iload_n 1, 1) := by decide +kernel
theorem dX11_ofTask_9 : decode cX11_ofTask 9 = .ok (.iadd, 1) := by decide +kernel
theorem dX11_ofTask_10 : decode cX11_ofTask 10 = .ok (.iload_n 2, 1) := by decide +kernel
theorem dX11_ofTask_11 : decode cX11_ofTask 11 = .ok (.iadd, 1) := by decide +kernel
theorem dX11_ofTask_12 : decode cX11_ofTask 12 = .ok (.ireturn, 1) := by decide +kernel
theorem dX11_isScope_0 : decode cX11_isScope 0 = .ok (.iload_n 1, 1) := by decide +kernel
theorem dX11_isScope_1 : decode cX11_isScope 1 = .ok (.iconst 0, 1) := by decide +kernel
theorem dX11_isScope_2 : decode cX11_isScope 2 = .ok (.aload_n 0, 1) := by decide +kernel
theorem dX11_isScope_3 : decode cX11_isScope 3 = .ok (.getfield 11, 3) := by decide +kernel
theorem dX11_isScope_6 : decode cX11_isScope 6 = .ok (.iconst 0, 1) := by decide +kernel
theorem dX11_isScope_7 : decode cX11_isScope 7 = .ok (.iaload, 1) := by decide +kernel
theorem dX11_isScope_8 : decode cX11_isScope 8 = .ok (.iconst 1, 1) := by decide +kernel
theorem dX11_isScope_9 : decode cX11_isScope 9 = .ok (.isub, 1) := by decide +kernel
theorem dX11_isScope_10 : decode cX11_isScope 10 = .ok (.invokestatic 46, 3) := by decide +kernel
theorem dX11_isScope_13 : decode cX11_isScope 13 = .ok (.ireturn, 1) := by decide +kernel
theorem dX11_isThing_0 : decode cX11_isThing 0 = .ok (.iload_n 1, 1) := by decide +kernel
theorem dX11_isThing_1 : decode cX11_isThing 1 = .ok (.iconst 0, 1) := by decide +kernel
theorem dX11_isThing_2 : decode cX11_isThing 2 = .ok (.aload_n 0, 1) := by decide +kernel
theorem dX11_isThing_3 : decode cX11_isThing 3 = .ok (.getfield 11, 3) := by decide +kernel
theorem dX11_isThing_6 : decode cX11_isThing 6 = .ok (.iconst 1, 1) := by decide +kernel
theorem dX11_isThing_7 : decode cX11_isThing 7 = .ok (.iaload, 1) := by decide +kernel
theorem dX11_isThing_8 : decode cX11_isThing 8 = .ok (.iconst 1, 1) := by decide +kernel
theorem dX11_isThing_9 : decode cX11_isThing 9 = .ok (.isub, 1) := by decide +kernel
theorem dX11_isThing_10 : decode cX11_isThing 10 = .ok (.invokestatic 46, 3) := by decide +kernel
theorem dX11_isThing_13 : decode cX11_isThing 13 = .ok (.ireturn, 1) := by decide +kernel
theorem dX11_isTask_0 : decode cX11_isTask 0 = .ok (.iload_n 1, 1) := by decide +kernel
theorem dX11_isTask_1 : decode cX11_isTask 1 = .ok (.iconst 0, 1) := by decide +kernel
theorem dX11_isTask_2 : decode cX11_isTask 2 = .ok (.aload_n 0, 1) := by decide +kernel
theorem dX11_isTask_3 : decode cX11_isTask 3 = .ok (.getfield 11, 3) := by decide +kernel
theorem dX11_isTask_6 : decode cX11_isTask 6 = .ok (.iconst 3, 1) := by decide +kernel
theorem dX11_isTask_7 : decode cX11_isTask 7 = .ok (.iaload, 1) := by decide +kernel
theorem dX11_isTask_8 : decode cX11_isTask 8 = .ok (.iconst 1, 1) := by decide +kernel
theorem dX11_isTask_9 : decode cX11_isTask 9 = .ok (.isub, 1) := by decide +kernel
theorem dX11_isTask_10 : decode cX11_isTask 10 = .ok (.invokestatic 46, 3) := by decide +kernel
theorem dX11_isTask_13 : decode cX11_isTask 13 = .ok (.ireturn, 1) := by decide +kernel
theorem dX11_isOpen_0 : decode cX11_isOpen 0 = .ok (.aload_n 0, 1) := by decide +kernel
theorem dX11_isOpen_1 : decode cX11_isOpen 1 = .ok (.iload_n 1, 1) := by decide +kernel
theorem dX11_isOpen_2 : decode cX11_isOpen 2 = .ok (.invokevirtual 50, 3) := by decide +kernel
theorem dX11_isOpen_5 : decode cX11_isOpen 5 = .ok (.ifCond .eq 20, 3) := by decide +kernel
theorem dX11_isOpen_8 : decode cX11_isOpen 8 = .ok (.aload_n 0, 1) := by decide +kernel
theorem dX11_isOpen_9 : decode cX11_isOpen 9 = .ok (.getfield 11, 3) := by decide +kernel
theorem dX11_isOpen_12 : decode cX11_isOpen 12 = .ok (.iload_n 1, 1) := by decide +kernel
theorem dX11_isOpen_13 : decode cX11_isOpen 13 = .ok (.iconst 0, 1) := by decide +kernel
theorem dX11_isOpen_14 : decode cX11_isOpen 14 = .ok (.invokestatic 42, 3) := by decide +kernel
theorem dX11_isOpen_17 : decode cX11_isOpen 17 = .ok (.iaload, 1) := by decide +kernel
theorem dX11_isOpen_18 : decode cX11_isOpen 18 = .ok (.ifCond .ne 7, 3) := by decide +kernel
theorem dX11_isOpen_21 : decode cX11_isOpen 21 = .ok (.iconst 1, 1) := by decide +kernel
theorem dX11_isOpen_22 : decode cX11_isOpen 22 = .ok (.goto 4, 3) := by decide +kernel
theorem dX11_isOpen_25 : decode cX11_isOpen 25 = .ok (.iconst 0, 1) := by decide +kernel
theorem dX11_isOpen_26 : decode cX11_isOpen 26 = .ok (.ireturn, 1) := by decide +kernel
theorem dX11_isHeld_0 : decode cX11_isHeld 0 = .ok (.aload_n 0, 1) := by decide +kernel
theorem dX11_isHeld_1 : decode cX11_isHeld 1 = .ok (.getfield 11, 3) := by decide +kernel
theorem dX11_isHeld_4 : decode cX11_isHeld 4 = .ok (.iload_n 1, 1) := by decide +kernel
theorem dX11_isHeld_5 : decode cX11_isHeld 5 = .ok (.iconst 0, 1) := by decide +kernel
theorem dX11_isHeld_6 : decode cX11_isHeld 6 = .ok (.iconst 0, 1) := by decide +kernel
theorem dX11_isHeld_7 : decode cX11_isHeld 7 = .ok (.invokestatic 54, 3) := by decide +kernel
theorem dX11_isHeld_10 : decode cX11_isHeld 10 = .ok (.iaload, 1) := by decide +kernel
theorem dX11_isHeld_11 : decode cX11_isHeld 11 = .ok (.ifCond .ne 7, 3) := by decide +kernel
theorem dX11_isHeld_14 : decode cX11_isHeld 14 = .ok (.iconst 1, 1) := by decide +kernel
theorem dX11_isHeld_15 : decode cX11_isHeld 15 = .ok (.goto 4, 3) := by decide +kernel
theorem dX11_isHeld_18 : decode cX11_isHeld 18 = .ok (.iconst 0, 1) := by decide +kernel
theorem dX11_isHeld_19 : decode cX11_isHeld 19 = .ok (.ireturn, 1) := by decide +kernel
theorem dX11_isReady_0 : decode cX11_isReady 0 = .ok (.aload_n 0, 1) := by decide +kernel
theorem dX11_isReady_1 : decode cX11_isReady 1 = .ok (.getfield 11, 3) := by decide +kernel
theorem dX11_isReady_4 : decode cX11_isReady 4 = .ok (.iload_n 1, 1) := by decide +kernel
theorem dX11_isReady_5 : decode cX11_isReady 5 = .ok (.iconst 2, 1) := by decide +kernel
theorem dX11_isReady_6 : decode cX11_isReady 6 = .ok (.iconst 0, 1) := by decide +kernel
theorem dX11_isReady_7 : decode cX11_isReady 7 = .ok (.invokestatic 58, 3) := by decide +kernel
theorem dX11_isReady_10 : decode cX11_isReady 10 = .ok (.iaload, 1) := by decide +kernel
theorem dX11_isReady_11 : decode cX11_isReady 11 = .ok (.ifCond .ne 7, 3) := by decide +kernel
theorem dX11_isReady_14 : decode cX11_isReady 14 = .ok (.iconst 1, 1) := by decide +kernel
theorem dX11_isReady_15 : decode cX11_isReady 15 = .ok (.goto 4, 3) := by decide +kernel
theorem dX11_isReady_18 : decode cX11_isReady 18 = .ok (.iconst 0, 1) := by decide +kernel
theorem dX11_isReady_19 : decode cX11_isReady 19 = .ok (.ireturn, 1) := by decide +kernel
theorem dX11_copies_0 : decode cX11_copies 0 = .ok (.iconst 0, 1) := by decide +kernel
theorem dX11_copies_1 : decode cX11_copies 1 = .ok (.istore_n 2, 1) := by decide +kernel
theorem dX11_copies_2 : decode cX11_copies 2 = .ok (.iload_n 2, 1) := by decide +kernel
theorem dX11_copies_3 : decode cX11_copies 3 = .ok (.sipush 2928, 3) := by decide +kernel
theorem dX11_copies_6 : decode cX11_copies 6 = .ok (.if_icmp .ge 15, 3) := by decide +kernel
theorem dX11_copies_9 : decode cX11_copies 9 = .ok (.aload_n 1, 1) := by decide +kernel
theorem dX11_copies_10 : decode cX11_copies 10 = .ok (.iload_n 2, 1) := by decide +kernel
theorem dX11_copies_11 : decode cX11_copies 11 = .ok (.aload_n 0, 1) := by decide +kernel
theorem dX11_copies_12 : decode cX11_copies 12 = .ok (.iload_n 2, 1) := by decide +kernel
theorem dX11_copies_13 : decode cX11_copies 13 = .ok (.iaload, 1) := by decide +kernel
theorem dX11_copies_14 : decode cX11_copies 14 = .ok (.iastore, 1) := by decide +kernel
theorem dX11_copies_15 : decode cX11_copies 15 = .ok (.iinc 2 1, 3) := by decide +kernel
theorem dX11_copies_18 : decode cX11_copies 18 = .ok (.goto (-16), 3) := by decide +kernel
theorem dX11_copies_21 : decode cX11_copies 21 = .ok (.return_, 1) := by decide +kernel
theorem dX11_stamp_0 : decode cX11_stamp 0 = .ok (.aload_n 0, 1) := by decide +kernel
theorem dX11_stamp_1 : decode cX11_stamp 1 = .ok (.getfield 11, 3) := by decide +kernel
theorem dX11_stamp_4 : decode cX11_stamp 4 = .ok (.bipush 6, 2) := by decide +kernel
theorem dX11_stamp_6 : decode cX11_stamp 6 = .ok (.dup2, 1) := by decide +kernel
theorem dX11_stamp_7 : decode cX11_stamp 7 = .ok (.iaload, 1) := by decide +kernel
theorem dX11_stamp_8 : decode cX11_stamp 8 = .ok (.iconst 1, 1) := by decide +kernel
theorem dX11_stamp_9 : decode cX11_stamp 9 = .ok (.iadd, 1) := by decide +kernel
theorem dX11_stamp_10 : decode cX11_stamp 10 = .ok (.iastore, 1) := by decide +kernel
theorem dX11_stamp_11 : decode cX11_stamp 11 = .ok (.aload_n 0, 1) := by decide +kernel
theorem dX11_stamp_12 : decode cX11_stamp 12 = .ok (.getfield 11, 3) := by decide +kernel
theorem dX11_stamp_15 : decode cX11_stamp 15 = .ok (.bipush 6, 2) := by decide +kernel
theorem dX11_stamp_17 : decode cX11_stamp 17 = .ok (.iaload, 1) := by decide +kernel
theorem dX11_stamp_18 : decode cX11_stamp 18 = .ok (.ireturn, 1) := by decide +kernel
theorem dX11_feed_0 : decode cX11_feed 0 = .ok (.iload_n 1, 1) := by decide +kernel
theorem dX11_feed_1 : decode cX11_feed 1 = .ok (.iconst 1, 1) := by decide +kernel
theorem dX11_feed_2 : decode cX11_feed 2 = .ok (.bipush 127, 2) := by decide +kernel
theorem dX11_feed_4 : decode cX11_feed 4 = .ok (.invokestatic 46, 3) := by decide +kernel
theorem dX11_feed_7 : decode cX11_feed 7 = .ok (.ifCond .ne 6, 3) := by decide +kernel
theorem dX11_feed_10 : decode cX11_feed 10 = .ok (.bipush (-2), 2) := by decide +kernel
theorem dX11_feed_12 : decode cX11_feed 12 = .ok (.ireturn, 1) := by decide +kernel
theorem dX11_feed_13 : decode cX11_feed 13 = .ok (.aload_n 0, 1) := by decide +kernel
theorem dX11_feed_14 : decode cX11_feed 14 = .ok (.getfield 61, 3) := by decide +kernel
theorem dX11_feed_17 : decode cX11_feed 17 = .ok (.bipush 120, 2) := by decide +kernel
theorem dX11_feed_19 : decode cX11_feed 19 = .ok (.if_icmp .ne 6, 3) := by decide +kernel
theorem dX11_feed_22 : decode cX11_feed 22 = .ok (.bipush (-4), 2) := by decide +kernel
theorem dX11_feed_24 : decode cX11_feed 24 = .ok (.ireturn, 1) := by decide +kernel
theorem dX11_feed_25 : decode cX11_feed 25 = .ok (.aload_n 0, 1) := by decide +kernel
theorem dX11_feed_26 : decode cX11_feed 26 = .ok (.getfield 24, 3) := by decide +kernel
theorem dX11_feed_29 : decode cX11_feed 29 = .ok (.aload_n 0, 1) := by decide +kernel
theorem dX11_feed_30 : decode cX11_feed 30 = .ok (.getfield 61, 3) := by decide +kernel
theorem dX11_feed_33 : decode cX11_feed 33 = .ok (.iload_n 1, 1) := by decide +kernel
theorem dX11_feed_34 : decode cX11_feed 34 = .ok (.iastore, 1) := by decide +kernel
theorem dX11_feed_35 : decode cX11_feed 35 = .ok (.aload_n 0, 1) := by decide +kernel
theorem dX11_feed_36 : decode cX11_feed 36 = .ok (.dup, 1) := by decide +kernel
theorem dX11_feed_37 : decode cX11_feed 37 = .ok (.getfield 61, 3) := by decide +kernel
theorem dX11_feed_40 : decode cX11_feed 40 = .ok (.iconst 1, 1) := by decide +kernel
theorem dX11_feed_41 : decode cX11_feed 41 = .ok (.iadd, 1) := by decide +kernel
theorem dX11_feed_42 : decode cX11_feed 42 = .ok (.putfield 61, 3) := by decide +kernel
theorem dX11_feed_45 : decode cX11_feed 45 = .ok (.aload_n 0, 1) := by decide +kernel
theorem dX11_feed_46 : decode cX11_feed 46 = .ok (.getfield 61, 3) := by decide +kernel
theorem dX11_feed_49 : decode cX11_feed 49 = .ok (.ireturn, 1) := by decide +kernel
theorem dX11_clear_0 : decode cX11_clear 0 = .ok (.aload_n 0, 1) := by decide +kernel
theorem dX11_clear_1 : decode cX11_clear 1 = .ok (.getfield 61, 3) := by decide +kernel
theorem dX11_clear_4 : decode cX11_clear 4 = .ok (.istore_n 1, 1) := by decide +kernel
theorem dX11_clear_5 : decode cX11_clear 5 = .ok (.aload_n 0, 1) := by decide +kernel
theorem dX11_clear_6 : decode cX11_clear 6 = .ok (.iconst 0, 1) := by decide +kernel
theorem dX11_clear_7 : decode cX11_clear 7 = .ok (.putfield 61, 3) := by decide +kernel
theorem dX11_clear_10 : decode cX11_clear 10 = .ok (.iload_n 1, 1) := by decide +kernel
theorem dX11_clear_11 : decode cX11_clear 11 = .ok (.ireturn, 1) := by decide +kernel
theorem dX11_here_0 : decode cX11_here 0 = .ok (.aload_n 0, 1) := by decide +kernel
theorem dX11_here_1 : decode cX11_here 1 = .ok (.getfield 65, 3) := by decide +kernel
theorem dX11_here_4 : decode cX11_here 4 = .ok (.aload_n 0, 1) := by decide +kernel
theorem dX11_here_5 : decode cX11_here 5 = .ok (.getfield 68, 3) := by decide +kernel
theorem dX11_here_8 : decode cX11_here 8 = .ok (.if_icmp .ge 15, 3) := by decide +kernel
theorem dX11_here_11 : decode cX11_here 11 = .ok (.aload_n 0, 1) := by decide +kernel
theorem dX11_here_12 : decode cX11_here 12 = .ok (.getfield 27, 3) := by decide +kernel
theorem dX11_here_15 : decode cX11_here 15 = .ok (.aload_n 0, 1) := by decide +kernel
theorem dX11_here_16 : decode cX11_here 16 = .ok (.getfield 65, 3) := by decide +kernel
theorem dX11_here_19 : decode cX11_here 19 = .ok (.iaload, 1) := by decide +kernel
theorem dX11_here_20 : decode cX11_here 20 = .ok (.goto 4, 3) := by decide +kernel
theorem dX11_here_23 : decode cX11_here 23 = .ok (.iconst (-1), 1) := by decide +kernel
theorem dX11_here_24 : decode cX11_here 24 = .ok (.ireturn, 1) := by decide +kernel
theorem dX11_fails_0 : decode cX11_fails 0 = .ok (.aload_n 0, 1) := by decide +kernel
theorem dX11_fails_1 : decode cX11_fails 1 = .ok (.getfield 71, 3) := by decide +kernel
theorem dX11_fails_4 : decode cX11_fails 4 = .ok (.ifCond .ge 8, 3) := by decide +kernel
theorem dX11_fails_7 : decode cX11_fails 7 = .ok (.aload_n 0, 1) := by decide +kernel
theorem dX11_fails_8 : decode cX11_fails 8 = .ok (.iload_n 1, 1) := by decide +kernel
theorem dX11_fails_9 : decode cX11_fails 9 = .ok (.putfield 71, 3) := by decide +kernel
theorem dX11_fails_12 : decode cX11_fails 12 = .ok (.iconst 0, 1) := by decide +kernel
theorem dX11_fails_13 : decode cX11_fails 13 = .ok (.ireturn, 1) := by decide +kernel
theorem dX11_isSign_0 : decode cX11_isSign 0 = .ok (.aload_n 0, 1) := by decide +kernel
theorem dX11_isSign_1 : decode cX11_isSign 1 = .ok (.invokevirtual 74, 3) := by decide +kernel
theorem dX11_isSign_4 : decode cX11_isSign 4 = .ok (.iload_n 1, 1) := by decide +kernel
theorem dX11_isSign_5 : decode cX11_isSign 5 = .ok (.if_icmp .eq 12, 3) := by decide +kernel
theorem dX11_isSign_8 : decode cX11_isSign 8 = .ok (.aload_n 0, 1) := by decide +kernel
theorem dX11_isSign_9 : decode cX11_isSign 9 = .ok (.aload_n 0, 1) := by decide +kernel
theorem dX11_isSign_10 : decode cX11_isSign 10 = .ok (.getfield 65, 3) := by decide +kernel
theorem dX11_isSign_13 : decode cX11_isSign 13 = .ok (.invokevirtual 78, 3) := by decide +kernel
theorem dX11_isSign_16 : decode cX11_isSign 16 = .ok (.ireturn, 1) := by decide +kernel
theorem dX11_isSign_17 : decode cX11_isSign 17 = .ok (.aload_n 0, 1) := by decide +kernel
theorem dX11_isSign_18 : decode cX11_isSign 18 = .ok (.dup, 1) := by decide +kernel
theorem dX11_isSign_19 : decode cX11_isSign 19 = .ok (.getfield 65, 3) := by decide +kernel
theorem dX11_isSign_22 : decode cX11_isSign 22 = .ok (.iconst 1, 1) := by decide +kernel
theorem dX11_isSign_23 : decode cX11_isSign 23 = .ok (.iadd, 1) := by decide +kernel
theorem dX11_isSign_24 : decode cX11_isSign 24 = .ok (.putfield 65, 3) := by decide +kernel
theorem dX11_isSign_27 : decode cX11_isSign 27 = .ok (.iconst 1, 1) := by decide +kernel
theorem dX11_isSign_28 : decode cX11_isSign 28 = .ok (.ireturn, 1) := by decide +kernel
theorem dX11_isNumber_0 : decode cX11_isNumber 0 = .ok (.aload_n 0, 1) := by decide +kernel
theorem dX11_isNumber_1 : decode cX11_isNumber 1 = .ok (.getfield 65, 3) := by decide +kernel
theorem dX11_isNumber_4 : decode cX11_isNumber 4 = .ok (.istore 4, 2) := by decide +kernel
theorem dX11_isNumber_6 : decode cX11_isNumber 6 = .ok (.aload_n 0, 1) := by decide +kernel
theorem dX11_isNumber_7 : decode cX11_isNumber 7 = .ok (.invokevirtual 74, 3) := by decide +kernel
theorem dX11_isNumber_10 : decode cX11_isNumber 10 = .ok (.bipush 48, 2) := by decide +kernel
theorem dX11_isNumber_12 : decode cX11_isNumber 12 = .ok (.bipush 57, 2) := by decide +kernel
theorem dX11_isNumber_14 : decode cX11_isNumber 14 = .ok (.invokestatic 46, 3) := by decide +kernel
theorem dX11_isNumber_17 : decode cX11_isNumber 17 = .ok (.ifCond .ne 12, 3) := by decide +kernel
theorem dX11_isNumber_20 : decode cX11_isNumber 20 = .ok (.aload_n 0, 1) := by decide +kernel
theorem dX11_isNumber_21 : decode cX11_isNumber 21 = .ok (.aload_n 0, 1) := by decide +kernel
theorem dX11_isNumber_22 : decode cX11_isNumber 22 = .ok (.getfield 65, 3) := by decide +kernel
theorem dX11_isNumber_25 : decode cX11_isNumber 25 = .ok (.invokevirtual 78, 3) := by decide +kernel
theorem dX11_isNumber_28 : decode cX11_isNumber 28 = .ok (.ireturn, 1) := by decide +kernel
theorem dX11_isNumber_29 : decode cX11_isNumber 29 = .ok (.aload_n 0, 1) := by decide +kernel
theorem dX11_isNumber_30 : decode cX11_isNumber 30 = .ok (.iconst 0, 1) := by decide +kernel
theorem dX11_isNumber_31 : decode cX11_isNumber 31 = .ok (.putfield 81, 3) := by decide +kernel
theorem dX11_isNumber_34 : decode cX11_isNumber 34 = .ok (.iconst 0, 1) := by decide +kernel
theorem dX11_isNumber_35 : decode cX11_isNumber 35 = .ok (.istore 5, 2) := by decide +kernel
theorem dX11_isNumber_37 : decode cX11_isNumber 37 = .ok (.iload 5, 2) := by decide +kernel
theorem dX11_isNumber_39 : decode cX11_isNumber 39 = .ok (.iload_n 1, 1) := by decide +kernel
theorem dX11_isNumber_40 : decode cX11_isNumber 40 = .ok (.if_icmp .ge 52, 3) := by decide +kernel
theorem dX11_isNumber_43 : decode cX11_isNumber 43 = .ok (.aload_n 0, 1) := by decide +kernel
theorem dX11_isNumber_44 : decode cX11_isNumber 44 = .ok (.invokevirtual 74, 3) := by decide +kernel
theorem dX11_isNumber_47 : decode cX11_isNumber 47 = .ok (.bipush 48, 2) := by decide +kernel
theorem dX11_isNumber_49 : decode cX11_isNumber 49 = .ok (.bipush 57, 2) := by decide +kernel
theorem dX11_isNumber_51 : decode cX11_isNumber 51 = .ok (.invokestatic 46, 3) := by decide +kernel
theorem dX11_isNumber_54 : decode cX11_isNumber 54 = .ok (.ifCond .eq 38, 3) := by decide +kernel
theorem dX11_isNumber_57 : decode cX11_isNumber 57 = .ok (.aload_n 0, 1) := by decide +kernel
theorem dX11_isNumber_58 : decode cX11_isNumber 58 = .ok (.bipush 10, 2) := by decide +kernel
theorem dX11_isNumber_60 : decode cX11_isNumber 60 = .ok (.aload_n 0, 1) := by decide +kernel
theorem dX11_isNumber_61 : decode cX11_isNumber 61 = .ok (.getfield 81, 3) := by decide +kernel
theorem dX11_isNumber_64 : decode cX11_isNumber 64 = .ok (.imul, 1) := by decide +kernel
theorem dX11_isNumber_65 : decode cX11_isNumber 65 = .ok (.aload_n 0, 1) := by decide +kernel
theorem dX11_isNumber_66 : decode cX11_isNumber 66 = .ok (.invokevirtual 74, 3) := by decide +kernel
theorem dX11_isNumber_69 : decode cX11_isNumber 69 = .ok (.iadd, 1) := by decide +kernel
theorem dX11_isNumber_70 : decode cX11_isNumber 70 = .ok (.bipush 48, 2) := by decide +kernel
theorem dX11_isNumber_72 : decode cX11_isNumber 72 = .ok (.isub, 1) := by decide +kernel
theorem dX11_isNumber_73 : decode cX11_isNumber 73 = .ok (.putfield 81, 3) := by decide +kernel
theorem dX11_isNumber_76 : decode cX11_isNumber 76 = .ok (.aload_n 0, 1) := by decide +kernel
theorem dX11_isNumber_77 : decode cX11_isNumber 77 = .ok (.dup, 1) := by decide +kernel
theorem dX11_isNumber_78 : decode cX11_isNumber 78 = .ok (.getfield 65, 3) := by decide +kernel
theorem dX11_isNumber_81 : decode cX11_isNumber 81 = .ok (.iconst 1, 1) := by decide +kernel
theorem dX11_isNumber_82 : decode cX11_isNumber 82 = .ok (.iadd, 1) := by decide +kernel
theorem dX11_isNumber_83 : decode cX11_isNumber 83 = .ok (.putfield 65, 3) := by decide +kernel
theorem dX11_isNumber_86 : decode cX11_isNumber 86 = .ok (.iinc 5 1, 3) := by decide +kernel
theorem dX11_isNumber_89 : decode cX11_isNumber 89 = .ok (.goto (-52), 3) := by decide +kernel
theorem dX11_isNumber_92 : decode cX11_isNumber 92 = .ok (.aload_n 0, 1) := by decide +kernel
theorem dX11_isNumber_93 : decode cX11_isNumber 93 = .ok (.getfield 81, 3) := by decide +kernel
theorem dX11_isNumber_96 : decode cX11_isNumber 96 = .ok (.iload_n 2, 1) := by decide +kernel
theorem dX11_isNumber_97 : decode cX11_isNumber 97 = .ok (.iload_n 3, 1) := by decide +kernel
theorem dX11_isNumber_98 : decode cX11_isNumber 98 = .ok (.invokestatic 46, 3) := by decide +kernel
theorem dX11_isNumber_101 : decode cX11_isNumber 101 = .ok (.ifCond .ne 12, 3) := by decide +kernel
theorem dX11_isNumber_104 : decode cX11_isNumber 104 = .ok (.aload_n 0, 1) := by decide +kernel
theorem dX11_isNumber_105 : decode cX11_isNumber 105 = .ok (.iload 4, 2) := by decide +kernel
theorem dX11_isNumber_107 : decode cX11_isNumber 107 = .ok (.invokevirtual 78, 3) := by decide +kernel
theorem dX11_isNumber_110 : decode cX11_isNumber 110 = .ok (.ifCond .eq 7, 3) := by decide +kernel
theorem dX11_isNumber_113 : decode cX11_isNumber 113 = .ok (.iconst 1, 1) := by decide +kernel
theorem dX11_isNumber_114 : decode cX11_isNumber 114 = .ok (.goto 4, 3) := by decide +kernel
theorem dX11_isNumber_117 : decode cX11_isNumber 117 = .ok (.iconst 0, 1) := by decide +kernel
theorem dX11_isNumber_118 : decode cX11_isNumber 118 = .ok (.ireturn, 1) := by decide +kernel
theorem dX11_isSigned_0 : decode cX11_isSigned 0 = .ok (.aload_n 0, 1) := by decide +kernel
theorem dX11_isSigned_1 : decode cX11_isSigned 1 = .ok (.dup, 1) := by decide +kernel
theorem dX11_isSigned_2 : decode cX11_isSigned 2 = .ok (.getfield 65, 3) := by decide +kernel
theorem dX11_isSigned_5 : decode cX11_isSigned 5 = .ok (.aload_n 0, 1) := by decide +kernel
theorem dX11_isSigned_6 : decode cX11_isSigned 6 = .ok (.invokevirtual 74, 3) := by decide +kernel
theorem dX11_isSigned_9 : decode cX11_isSigned 9 = .ok (.bipush 45, 2) := by decide +kernel
theorem dX11_isSigned_11 : decode cX11_isSigned 11 = .ok (.if_icmp .ne 7, 3) := by decide +kernel
theorem dX11_isSigned_14 : decode cX11_isSigned 14 = .ok (.iconst 1, 1) := by decide +kernel
theorem dX11_isSigned_15 : decode cX11_isSigned 15 = .ok (.goto 4, 3) := by decide +kernel
theorem dX11_isSigned_18 : decode cX11_isSigned 18 = .ok (.iconst 0, 1) := by decide +kernel
theorem dX11_isSigned_19 : decode cX11_isSigned 19 = .ok (.iadd, 1) := by decide +kernel
theorem dX11_isSigned_20 : decode cX11_isSigned 20 = .ok (.putfield 65, 3) := by decide +kernel
theorem dX11_isSigned_23 : decode cX11_isSigned 23 = .ok (.aload_n 0, 1) := by decide +kernel
theorem dX11_isSigned_24 : decode cX11_isSigned 24 = .ok (.iconst 5, 1) := by decide +kernel
theorem dX11_isSigned_25 : decode cX11_isSigned 25 = .ok (.iconst 0, 1) := by decide +kernel
theorem dX11_isSigned_26 : decode cX11_isSigned 26 = .ok (.ldc 84, 2) := by decide +kernel
theorem dX11_isSigned_28 : decode cX11_isSigned 28 = .ok (.invokevirtual 85, 3) := by decide +kernel
theorem dX11_isSigned_31 : decode cX11_isSigned 31 = .ok (.ireturn, 1) := by decide +kernel
theorem dX11_isName_0 : decode cX11_isName 0 = .ok (.aload_n 0, 1) := by decide +kernel
theorem dX11_isName_1 : decode cX11_isName 1 = .ok (.invokevirtual 74, 3) := by decide +kernel
theorem dX11_isName_4 : decode cX11_isName 4 = .ok (.bipush 97, 2) := by decide +kernel
theorem dX11_isName_6 : decode cX11_isName 6 = .ok (.bipush 122, 2) := by decide +kernel
theorem dX11_isName_8 : decode cX11_isName 8 = .ok (.invokestatic 46, 3) := by decide +kernel
theorem dX11_isName_11 : decode cX11_isName 11 = .ok (.ifCond .ne 12, 3) := by decide +kernel
theorem dX11_isName_14 : decode cX11_isName 14 = .ok (.aload_n 0, 1) := by decide +kernel
theorem dX11_isName_15 : decode cX11_isName 15 = .ok (.aload_n 0, 1) := by decide +kernel
theorem dX11_isName_16 : decode cX11_isName 16 = .ok (.getfield 65, 3) := by decide +kernel
theorem dX11_isName_19 : decode cX11_isName 19 = .ok (.invokevirtual 78, 3) := by decide +kernel
theorem dX11_isName_22 : decode cX11_isName 22 = .ok (.ireturn, 1) := by decide +kernel
theorem dX11_isName_23 : decode cX11_isName 23 = .ok (.iconst 0, 1) := by decide +kernel
theorem dX11_isName_24 : decode cX11_isName 24 = .ok (.istore_n 1, 1) := by decide +kernel
theorem dX11_isName_25 : decode cX11_isName 25 = .ok (.iload_n 1, 1) := by decide +kernel
theorem dX11_isName_26 : decode cX11_isName 26 = .ok (.bipush 7, 2) := by decide +kernel
theorem dX11_isName_28 : decode cX11_isName 28 = .ok (.if_icmp .ge 33, 3) := by decide +kernel
theorem dX11_isName_31 : decode cX11_isName 31 = .ok (.aload_n 0, 1) := by decide +kernel
theorem dX11_isName_32 : decode cX11_isName 32 = .ok (.invokevirtual 74, 3) := by decide +kernel
theorem dX11_isName_35 : decode cX11_isName 35 = .ok (.bipush 97, 2) := by decide +kernel
theorem dX11_isName_37 : decode cX11_isName 37 = .ok (.bipush 122, 2) := by decide +kernel
theorem dX11_isName_39 : decode cX11_isName 39 = .ok (.invokestatic 46, 3) := by decide +kernel
theorem dX11_isName_42 : decode cX11_isName 42 = .ok (.ifCond .eq 19, 3) := by decide +kernel
theorem dX11_isName_45 : decode cX11_isName 45 = .ok (.aload_n 0, 1) := by decide +kernel
theorem dX11_isName_46 : decode cX11_isName 46 = .ok (.dup, 1) := by decide +kernel
theorem dX11_isName_47 : decode cX11_isName 47 = .ok (.getfield 65, 3) := by decide +kernel
theorem dX11_isName_50 : decode cX11_isName 50 = .ok (.iconst 1, 1) := by decide +kernel
theorem dX11_isName_51 : decode cX11_isName 51 = .ok (.iadd, 1) := by decide +kernel
theorem dX11_isName_52 : decode cX11_isName 52 = .ok (.putfield 65, 3) := by decide +kernel
theorem dX11_isName_55 : decode cX11_isName 55 = .ok (.iinc 1 1, 3) := by decide +kernel
theorem dX11_isName_58 : decode cX11_isName 58 = .ok (.goto (-33), 3) := by decide +kernel
theorem dX11_isName_61 : decode cX11_isName 61 = .ok (.iconst 1, 1) := by decide +kernel
theorem dX11_isName_62 : decode cX11_isName 62 = .ok (.ireturn, 1) := by decide +kernel
theorem dX11_isTakeRead_0 : decode cX11_isTakeRead 0 = .ok (.aload_n 0, 1) := by decide +kernel
theorem dX11_isTakeRead_1 : decode cX11_isTakeRead 1 = .ok (.invokevirtual 88, 3) := by decide +kernel
theorem dX11_isTakeRead_4 : decode cX11_isTakeRead 4 = .ok (.ifCond .ne 5, 3) := by decide +kernel
theorem dX11_isTakeRead_7 : decode cX11_isTakeRead 7 = .ok (.iconst 0, 1) := by decide +kernel
theorem dX11_isTakeRead_8 : decode cX11_isTakeRead 8 = .ok (.ireturn, 1) := by decide +kernel
theorem dX11_isTakeRead_9 : decode cX11_isTakeRead 9 = .ok (.aload_n 0, 1) := by decide +kernel
theorem dX11_isTakeRead_10 : decode cX11_isTakeRead 10 = .ok (.invokevirtual 74, 3) := by decide +kernel
theorem dX11_isTakeRead_13 : decode cX11_isTakeRead 13 = .ok (.bipush 123, 2) := by decide +kernel
theorem dX11_isTakeRead_15 : decode cX11_isTakeRead 15 = .ok (.if_icmp .eq 5, 3) := by decide +kernel
theorem dX11_isTakeRead_18 : decode cX11_isTakeRead 18 = .ok (.iconst 1, 1) := by decide +kernel
theorem dX11_isTakeRead_19 : decode cX11_isTakeRead 19 = .ok (.ireturn, 1) := by decide +kernel
theorem dX11_isTakeRead_20 : decode cX11_isTakeRead 20 = .ok (.iload_n 1, 1) := by decide +kernel
theorem dX11_isTakeRead_21 : decode cX11_isTakeRead 21 = .ok (.iconst 2, 1) := by decide +kernel
theorem dX11_isTakeRead_22 : decode cX11_isTakeRead 22 = .ok (.if_icmp .le 12, 3) := by decide +kernel
theorem dX11_isTakeRead_25 : decode cX11_isTakeRead 25 = .ok (.aload_n 0, 1) := by decide +kernel
theorem dX11_isTakeRead_26 : decode cX11_isTakeRead 26 = .ok (.aload_n 0, 1) := by decide +kernel
theorem dX11_isTakeRead_27 : decode cX11_isTakeRead 27 = .ok (.getfield 65, 3) := by decide +kernel
theorem dX11_isTakeRead_30 : decode cX11_isTakeRead 30 = .ok (.invokevirtual 78, 3) := by decide +kernel
theorem dX11_isTakeRead_33 : decode cX11_isTakeRead 33 = .ok (.ireturn, 1) := by decide +kernel
theorem dX11_isTakeRead_34 : decode cX11_isTakeRead 34 = .ok (.aload_n 0, 1) := by decide +kernel
theorem dX11_isTakeRead_35 : decode cX11_isTakeRead 35 = .ok (.dup, 1) := by decide +kernel
theorem dX11_isTakeRead_36 : decode cX11_isTakeRead 36 = .ok (.getfield 65, 3) := by decide +kernel
theorem dX11_isTakeRead_39 : decode cX11_isTakeRead 39 = .ok (.iconst 1, 1) := by decide +kernel
theorem dX11_isTakeRead_40 : decode cX11_isTakeRead 40 = .ok (.iadd, 1) := by decide +kernel
theorem dX11_isTakeRead_41 : decode cX11_isTakeRead 41 = .ok (.putfield 65, 3) := by decide +kernel
theorem dX11_isTakeRead_44 : decode cX11_isTakeRead 44 = .ok (.aload_n 0, 1) := by decide +kernel
theorem dX11_isTakeRead_45 : decode cX11_isTakeRead 45 = .ok (.iload_n 1, 1) := by decide +kernel
theorem dX11_isTakeRead_46 : decode cX11_isTakeRead 46 = .ok (.iconst 1, 1) := by decide +kernel
theorem dX11_isTakeRead_47 : decode cX11_isTakeRead 47 = .ok (.iadd, 1) := by decide +kernel
theorem dX11_isTakeRead_48 : decode cX11_isTakeRead 48 = .ok (.iconst 0, 1) := by decide +kernel
theorem dX11_isTakeRead_49 : decode cX11_isTakeRead 49 = .ok (.invokevirtual 92, 3) := by decide +kernel
theorem dX11_isTakeRead_52 : decode cX11_isTakeRead 52 = .ok (.ifCond .eq 16, 3) := by decide +kernel
theorem dX11_isTakeRead_55 : decode cX11_isTakeRead 55 = .ok (.aload_n 0, 1) := by decide +kernel
theorem dX11_isTakeRead_56 : decode cX11_isTakeRead 56 = .ok (.bipush 125, 2) := by decide +kernel
theorem dX11_isTakeRead_58 : decode cX11_isTakeRead 58 = .ok (.invokevirtual 96, 3) := by decide +kernel
theorem dX11_isTakeRead_61 : decode cX11_isTakeRead 61 = .ok (.ifCond .eq 7, 3) := by decide +kernel
theorem dX11_isTakeRead_64 : decode cX11_isTakeRead 64 = .ok (.iconst 1, 1) := by decide +kernel
theorem dX11_isTakeRead_65 : decode cX11_isTakeRead 65 = .ok (.goto 4, 3) := by decide +kernel
theorem dX11_isTakeRead_68 : decode cX11_isTakeRead 68 = .ok (.iconst 0, 1) := by decide +kernel
theorem dX11_isTakeRead_69 : decode cX11_isTakeRead 69 = .ok (.ireturn, 1) := by decide +kernel
theorem dX11_isStepRead_0 : decode cX11_isStepRead 0 = .ok (.aload_n 0, 1) := by decide +kernel
theorem dX11_isStepRead_1 : decode cX11_isStepRead 1 = .ok (.invokevirtual 74, 3) := by decide +kernel
theorem dX11_isStepRead_4 : decode cX11_isStepRead 4 = .ok (.istore 4, 2) := by decide +kernel
theorem dX11_isStepRead_6 : decode cX11_isStepRead 6 = .ok (.iload 4, 2) := by decide +kernel
theorem dX11_isStepRead_8 : decode cX11_isStepRead 8 = .ok (.bipush 43, 2) := by decide +kernel
theorem dX11_isStepRead_10 : decode cX11_isStepRead 10 = .ok (.if_icmp .eq 81, 3) := by decide +kernel
theorem dX11_isStepRead_13 : decode cX11_isStepRead 13 = .ok (.iload 4, 2) := by decide +kernel
theorem dX11_isStepRead_15 : decode cX11_isStepRead 15 = .ok (.bipush 33, 2) := by decide +kernel
theorem dX11_isStepRead_17 : decode cX11_isStepRead 17 = .ok (.if_icmp .eq 74, 3) := by decide +kernel
theorem dX11_isStepRead_20 : decode cX11_isStepRead 20 = .ok (.iload 4, 2) := by decide +kernel
theorem dX11_isStepRead_22 : decode cX11_isStepRead 22 = .ok (.bipush 97, 2) := by decide +kernel
theorem dX11_isStepRead_24 : decode cX11_isStepRead 24 = .ok (.if_icmp .eq 67, 3) := by decide +kernel
theorem dX11_isStepRead_27 : decode cX11_isStepRead 27 = .ok (.iload 4, 2) := by decide +kernel
theorem dX11_isStepRead_29 : decode cX11_isStepRead 29 = .ok (.bipush 120, 2) := by decide +kernel
theorem dX11_isStepRead_31 : decode cX11_isStepRead 31 = .ok (.if_icmp .eq 60, 3) := by decide +kernel
theorem dX11_isStepRead_34 : decode cX11_isStepRead 34 = .ok (.iload 4, 2) := by decide +kernel
theorem dX11_isStepRead_36 : decode cX11_isStepRead 36 = .ok (.bipush 109, 2) := by decide +kernel
theorem dX11_isStepRead_38 : decode cX11_isStepRead 38 = .ok (.if_icmp .eq 53, 3) := by decide +kernel
theorem dX11_isStepRead_41 : decode cX11_isStepRead 41 = .ok (.iload 4, 2) := by decide +kernel
theorem dX11_isStepRead_43 : decode cX11_isStepRead 43 = .ok (.bipush 107, 2) := by decide +kernel
theorem dX11_isStepRead_45 : decode cX11_isStepRead 45 = .ok (.if_icmp .eq 46, 3) := by decide +kernel
theorem dX11_isStepRead_48 : decode cX11_isStepRead 48 = .ok (.iload 4, 2) := by decide +kernel
theorem dX11_isStepRead_50 : decode cX11_isStepRead 50 = .ok (.bipush 46, 2) := by decide +kernel
theorem dX11_isStepRead_52 : decode cX11_isStepRead 52 = .ok (.if_icmp .eq 39, 3) := by decide +kernel
theorem dX11_isStepRead_55 : decode cX11_isStepRead 55 = .ok (.iload 4, 2) := by decide +kernel
theorem dX11_isStepRead_57 : decode cX11_isStepRead 57 = .ok (.bipush 63, 2) := by decide +kernel
theorem dX11_isStepRead_59 : decode cX11_isStepRead 59 = .ok (.if_icmp .ne 7, 3) := by decide +kernel
theorem dX11_isStepRead_62 : decode cX11_isStepRead 62 = .ok (.iload_n 3, 1) := by decide +kernel
theorem dX11_isStepRead_63 : decode cX11_isStepRead 63 = .ok (.ifCond .eq 28, 3) := by decide +kernel
theorem dX11_isStepRead_66 : decode cX11_isStepRead 66 = .ok (.iload 4, 2) := by decide +kernel
theorem dX11_isStepRead_68 : decode cX11_isStepRead 68 = .ok (.bipush 40, 2) := by decide +kernel
theorem dX11_isStepRead_70 : decode cX11_isStepRead 70 = .ok (.if_icmp .eq 17, 3) := by decide +kernel
theorem dX11_isStepRead_73 : decode cX11_isStepRead 73 = .ok (.iload 4, 2) := by decide +kernel
theorem dX11_isStepRead_75 : decode cX11_isStepRead 75 = .ok (.bipush 41, 2) := by decide +kernel
theorem dX11_isStepRead_77 : decode cX11_isStepRead 77 = .ok (.if_icmp .ne 18, 3) := by decide +kernel
theorem dX11_isStepRead_80 : decode cX11_isStepRead 80 = .ok (.aload_n 0, 1) := by decide +kernel
theorem dX11_isStepRead_81 : decode cX11_isStepRead 81 = .ok (.getfield 99, 3) := by decide +kernel
theorem dX11_isStepRead_84 : decode cX11_isStepRead 84 = .ok (.ifCond .le 11, 3) := by decide +kernel
theorem dX11_isStepRead_87 : decode cX11_isStepRead 87 = .ok (.iload_n 2, 1) := by decide +kernel
theorem dX11_isStepRead_88 : decode cX11_isStepRead 88 = .ok (.ifCond .eq 7, 3) := by decide +kernel
theorem dX11_isStepRead_91 : decode cX11_isStepRead 91 = .ok (.iconst 1, 1) := by decide +kernel
theorem dX11_isStepRead_92 : decode cX11_isStepRead 92 = .ok (.goto 4, 3) := by decide +kernel
theorem dX11_isStepRead_95 : decode cX11_isStepRead 95 = .ok (.iconst 0, 1) := by decide +kernel
theorem dX11_isStepRead_96 : decode cX11_isStepRead 96 = .ok (.istore 5, 2) := by decide +kernel
theorem dX11_isStepRead_98 : decode cX11_isStepRead 98 = .ok (.iload 5, 2) := by decide +kernel
theorem dX11_isStepRead_100 : decode cX11_isStepRead 100 = .ok (.ifCond .ne 12, 3) := by decide +kernel
theorem dX11_isStepRead_103 : decode cX11_isStepRead 103 = .ok (.aload_n 0, 1) := by decide +kernel
theorem dX11_isStepRead_104 : decode cX11_isStepRead 104 = .ok (.aload_n 0, 1) := by decide +kernel
theorem dX11_isStepRead_105 : decode cX11_isStepRead 105 = .ok (.getfield 65, 3) := by decide +kernel
theorem dX11_isStepRead_108 : decode cX11_isStepRead 108 = .ok (.invokevirtual 78, 3) := by decide +kernel
theorem dX11_isStepRead_111 : decode cX11_isStepRead 111 = .ok (.ireturn, 1) := by decide +kernel
theorem dX11_isStepRead_112 : decode cX11_isStepRead 112 = .ok (.aload_n 0, 1) := by decide +kernel
theorem dX11_isStepRead_113 : decode cX11_isStepRead 113 = .ok (.dup, 1) := by decide +kernel
theorem dX11_isStepRead_114 : decode cX11_isStepRead 114 = .ok (.getfield 65, 3) := by decide +kernel
theorem dX11_isStepRead_117 : decode cX11_isStepRead 117 = .ok (.iconst 1, 1) := by decide +kernel
theorem dX11_isStepRead_118 : decode cX11_isStepRead 118 = .ok (.iadd, 1) := by decide +kernel
theorem dX11_isStepRead_119 : decode cX11_isStepRead 119 = .ok (.putfield 65, 3) := by decide +kernel
theorem dX11_isStepRead_122 : decode cX11_isStepRead 122 = .ok (.iload 4, 2) := by decide +kernel
theorem dX11_isStepRead_124 : decode cX11_isStepRead 124 = .ok (.lookupswitch 215 #[(33, 101), (43, 68), (63, 163), (97, 110), (107, 154), (109, 121), (120, 116)], 68) := by decide +kernel
theorem dX11_isStepRead_192 : decode cX11_isStepRead 192 = .ok (.aload_n 0, 1) := by decide +kernel
theorem dX11_isStepRead_193 : decode cX11_isStepRead 193 = .ok (.iconst 1, 1) := by decide +kernel
theorem dX11_isStepRead_194 : decode cX11_isStepRead 194 = .ok (.iconst 0, 1) := by decide +kernel
theorem dX11_isStepRead_195 : decode cX11_isStepRead 195 = .ok (.bipush 7, 2) := by decide +kernel
theorem dX11_isStepRead_197 : decode cX11_isStepRead 197 = .ok (.invokevirtual 85, 3) := by decide +kernel
theorem dX11_isStepRead_200 : decode cX11_isStepRead 200 = .ok (.ifCond .eq 23, 3) := by decide +kernel
theorem dX11_isStepRead_203 : decode cX11_isStepRead 203 = .ok (.aload_n 0, 1) := by decide +kernel
theorem dX11_isStepRead_204 : decode cX11_isStepRead 204 = .ok (.bipush 61, 2) := by decide +kernel
theorem dX11_isStepRead_206 : decode cX11_isStepRead 206 = .ok (.invokevirtual 96, 3) := by decide +kernel
theorem dX11_isStepRead_209 : decode cX11_isStepRead 209 = .ok (.ifCond .eq 14, 3) := by decide +kernel
theorem dX11_isStepRead_212 : decode cX11_isStepRead 212 = .ok (.aload_n 0, 1) := by decide +kernel
theorem dX11_isStepRead_213 : decode cX11_isStepRead 213 = .ok (.invokevirtual 102, 3) := by decide +kernel
theorem dX11_isStepRead_216 : decode cX11_isStepRead 216 = .ok (.ifCond .eq 7, 3) := by decide +kernel
theorem dX11_isStepRead_219 : decode cX11_isStepRead 219 = .ok (.iconst 1, 1) := by decide +kernel
theorem dX11_isStepRead_220 : decode cX11_isStepRead 220 = .ok (.goto 4, 3) := by decide +kernel
theorem dX11_isStepRead_223 : decode cX11_isStepRead 223 = .ok (.iconst 0, 1) := by decide +kernel
theorem dX11_isStepRead_224 : decode cX11_isStepRead 224 = .ok (.ireturn, 1) := by decide +kernel
theorem dX11_isStepRead_225 : decode cX11_isStepRead 225 = .ok (.aload_n 0, 1) := by decide +kernel
theorem dX11_isStepRead_226 : decode cX11_isStepRead 226 = .ok (.iconst 2, 1) := by decide +kernel
theorem dX11_isStepRead_227 : decode cX11_isStepRead 227 = .ok (.iconst 1, 1) := by decide +kernel
theorem dX11_isStepRead_228 : decode cX11_isStepRead 228 = .ok (.bipush 99, 2) := by decide +kernel
theorem dX11_isStepRead_230 : decode cX11_isStepRead 230 = .ok (.invokevirtual 85, 3) := by decide +kernel
theorem dX11_isStepRead_233 : decode cX11_isStepRead 233 = .ok (.ireturn, 1) := by decide +kernel
theorem dX11_isStepRead_234 : decode cX11_isStepRead 234 = .ok (.aload_n 0, 1) := by decide +kernel
theorem dX11_isStepRead_235 : decode cX11_isStepRead 235 = .ok (.iload_n 1, 1) := by decide +kernel
theorem dX11_isStepRead_236 : decode cX11_isStepRead 236 = .ok (.invokevirtual 105, 3) := by decide +kernel
theorem dX11_isStepRead_239 : decode cX11_isStepRead 239 = .ok (.ireturn, 1) := by decide +kernel
theorem dX11_isStepRead_240 : decode cX11_isStepRead 240 = .ok (.aload_n 0, 1) := by decide +kernel
theorem dX11_isStepRead_241 : decode cX11_isStepRead 241 = .ok (.invokevirtual 88, 3) := by decide +kernel
theorem dX11_isStepRead_244 : decode cX11_isStepRead 244 = .ok (.ireturn, 1) := by decide +kernel
theorem dX11_isStepRead_245 : decode cX11_isStepRead 245 = .ok (.aload_n 0, 1) := by decide +kernel
theorem dX11_isStepRead_246 : decode cX11_isStepRead 246 = .ok (.invokevirtual 88, 3) := by decide +kernel
theorem dX11_isStepRead_249 : decode cX11_isStepRead 249 = .ok (.ifCond .eq 27, 3) := by decide +kernel
theorem dX11_isStepRead_252 : decode cX11_isStepRead 252 = .ok (.aload_n 0, 1) := by decide +kernel
theorem dX11_isStepRead_253 : decode cX11_isStepRead 253 = .ok (.bipush 62, 2) := by decide +kernel
theorem dX11_isStepRead_255 : decode cX11_isStepRead 255 = .ok (.invokevirtual 96, 3) := by decide +kernel
theorem dX11_isStepRead_258 : decode cX11_isStepRead 258 = .ok (.ifCond .eq 18, 3) := by decide +kernel
theorem dX11_isStepRead_261 : decode cX11_isStepRead 261 = .ok (.aload_n 0, 1) := by decide +kernel
theorem dX11_isStepRead_262 : decode cX11_isStepRead 262 = .ok (.iconst 2, 1) := by decide +kernel
theorem dX11_isStepRead_263 : decode cX11_isStepRead 263 = .ok (.iconst 0, 1) := by decide +kernel
theorem dX11_isStepRead_264 : decode cX11_isStepRead 264 = .ok (.bipush 99, 2) := by decide +kernel
theorem dX11_isStepRead_266 : decode cX11_isStepRead 266 = .ok (.invokevirtual 85, 3) := by decide +kernel
theorem dX11_isStepRead_269 : decode cX11_isStepRead 269 = .ok (.ifCond .eq 7, 3) := by decide +kernel
theorem dX11_isStepRead_272 : decode cX11_isStepRead 272 = .ok (.iconst 1, 1) := by decide +kernel
theorem dX11_isStepRead_273 : decode cX11_isStepRead 273 = .ok (.goto 4, 3) := by decide +kernel
theorem dX11_isStepRead_276 : decode cX11_isStepRead 276 = .ok (.iconst 0, 1) := by decide +kernel
theorem dX11_isStepRead_277 : decode cX11_isStepRead 277 = .ok (.ireturn, 1) := by decide +kernel
theorem dX11_isStepRead_278 : decode cX11_isStepRead 278 = .ok (.aload_n 0, 1) := by decide +kernel
theorem dX11_isStepRead_279 : decode cX11_isStepRead 279 = .ok (.iconst 1, 1) := by decide +kernel
theorem dX11_isStepRead_280 : decode cX11_isStepRead 280 = .ok (.iconst 0, 1) := by decide +kernel
theorem dX11_isStepRead_281 : decode cX11_isStepRead 281 = .ok (.bipush 9, 2) := by decide +kernel
theorem dX11_isStepRead_283 : decode cX11_isStepRead 283 = .ok (.invokevirtual 85, 3) := by decide +kernel
theorem dX11_isStepRead_286 : decode cX11_isStepRead 286 = .ok (.ireturn, 1) := by decide +kernel
theorem dX11_isStepRead_287 : decode cX11_isStepRead 287 = .ok (.aload_n 0, 1) := by decide +kernel
theorem dX11_isStepRead_288 : decode cX11_isStepRead 288 = .ok (.iconst 1, 1) := by decide +kernel
theorem dX11_isStepRead_289 : decode cX11_isStepRead 289 = .ok (.iconst 0, 1) := by decide +kernel
theorem dX11_isStepRead_290 : decode cX11_isStepRead 290 = .ok (.bipush 7, 2) := by decide +kernel
theorem dX11_isStepRead_292 : decode cX11_isStepRead 292 = .ok (.invokevirtual 85, 3) := by decide +kernel
theorem dX11_isStepRead_295 : decode cX11_isStepRead 295 = .ok (.ifCond .eq 42, 3) := by decide +kernel
theorem dX11_isStepRead_298 : decode cX11_isStepRead 298 = .ok (.aload_n 0, 1) := by decide +kernel
theorem dX11_isStepRead_299 : decode cX11_isStepRead 299 = .ok (.bipush 60, 2) := by decide +kernel
theorem dX11_isStepRead_301 : decode cX11_isStepRead 301 = .ok (.invokevirtual 96, 3) := by decide +kernel
theorem dX11_isStepRead_304 : decode cX11_isStepRead 304 = .ok (.ifCond .eq 33, 3) := by decide +kernel
theorem dX11_isStepRead_307 : decode cX11_isStepRead 307 = .ok (.aload_n 0, 1) := by decide +kernel
theorem dX11_isStepRead_308 : decode cX11_isStepRead 308 = .ok (.invokevirtual 102, 3) := by decide +kernel
theorem dX11_isStepRead_311 : decode cX11_isStepRead 311 = .ok (.ifCond .eq 26, 3) := by decide +kernel
theorem dX11_isStepRead_314 : decode cX11_isStepRead 314 = .ok (.aload_n 0, 1) := by decide +kernel
theorem dX11_isStepRead_315 : decode cX11_isStepRead 315 = .ok (.bipush 58, 2) := by decide +kernel
theorem dX11_isStepRead_317 : decode cX11_isStepRead 317 = .ok (.invokevirtual 96, 3) := by decide +kernel
theorem dX11_isStepRead_320 : decode cX11_isStepRead 320 = .ok (.ifCond .eq 17, 3) := by decide +kernel
theorem dX11_isStepRead_323 : decode cX11_isStepRead 323 = .ok (.aload_n 0, 1) := by decide +kernel
theorem dX11_isStepRead_324 : decode cX11_isStepRead 324 = .ok (.iload_n 1, 1) := by decide +kernel
theorem dX11_isStepRead_325 : decode cX11_isStepRead 325 = .ok (.iconst 0, 1) := by decide +kernel
theorem dX11_isStepRead_326 : decode cX11_isStepRead 326 = .ok (.iconst 1, 1) := by decide +kernel
theorem dX11_isStepRead_327 : decode cX11_isStepRead 327 = .ok (.invokevirtual 108, 3) := by decide +kernel
theorem dX11_isStepRead_330 : decode cX11_isStepRead 330 = .ok (.ifCond .eq 7, 3) := by decide +kernel
theorem dX11_isStepRead_333 : decode cX11_isStepRead 333 = .ok (.iconst 1, 1) := by decide +kernel
theorem dX11_isStepRead_334 : decode cX11_isStepRead 334 = .ok (.goto 4, 3) := by decide +kernel
theorem dX11_isStepRead_337 : decode cX11_isStepRead 337 = .ok (.iconst 0, 1) := by decide +kernel
theorem dX11_isStepRead_338 : decode cX11_isStepRead 338 = .ok (.ireturn, 1) := by decide +kernel
theorem dX11_isStepRead_339 : decode cX11_isStepRead 339 = .ok (.aload_n 0, 1) := by decide +kernel
theorem dX11_isStepRead_340 : decode cX11_isStepRead 340 = .ok (.dup, 1) := by decide +kernel
theorem dX11_isStepRead_341 : decode cX11_isStepRead 341 = .ok (.getfield 99, 3) := by decide +kernel
theorem dX11_isStepRead_344 : decode cX11_isStepRead 344 = .ok (.iload 4, 2) := by decide +kernel
theorem dX11_isStepRead_346 : decode cX11_isStepRead 346 = .ok (.bipush 40, 2) := by decide +kernel
theorem dX11_isStepRead_348 : decode cX11_isStepRead 348 = .ok (.if_icmp .ne 7, 3) := by decide +kernel
theorem dX11_isStepRead_351 : decode cX11_isStepRead 351 = .ok (.iconst 1, 1) := by decide +kernel
theorem dX11_isStepRead_352 : decode cX11_isStepRead 352 = .ok (.goto 15, 3) := by decide +kernel
theorem dX11_isStepRead_355 : decode cX11_isStepRead 355 = .ok (.iload 4, 2) := by decide +kernel
theorem dX11_isStepRead_357 : decode cX11_isStepRead 357 = .ok (.bipush 41, 2) := by decide +kernel
theorem dX11_isStepRead_359 : decode cX11_isStepRead 359 = .ok (.if_icmp .ne 7, 3) := by decide +kernel
theorem dX11_isStepRead_362 : decode cX11_isStepRead 362 = .ok (.iconst (-1), 1) := by decide +kernel
theorem dX11_isStepRead_363 : decode cX11_isStepRead 363 = .ok (.goto 4, 3) := by decide +kernel
theorem dX11_isStepRead_366 : decode cX11_isStepRead 366 = .ok (.iconst 0, 1) := by decide +kernel
theorem dX11_isStepRead_367 : decode cX11_isStepRead 367 = .ok (.iadd, 1) := by decide +kernel
theorem dX11_isStepRead_368 : decode cX11_isStepRead 368 = .ok (.putfield 99, 3) := by decide +kernel
theorem dX11_isStepRead_371 : decode cX11_isStepRead 371 = .ok (.iconst 1, 1) := by decide +kernel
theorem dX11_isStepRead_372 : decode cX11_isStepRead 372 = .ok (.ireturn, 1) := by decide +kernel
theorem dX11_isStepsRead_0 : decode cX11_isStepsRead 0 = .ok (.aload_n 0, 1) := by decide +kernel
theorem dX11_isStepsRead_1 : decode cX11_isStepsRead 1 = .ok (.iload_n 1, 1) := by decide +kernel
theorem dX11_isStepsRead_2 : decode cX11_isStepsRead 2 = .ok (.iload_n 2, 1) := by decide +kernel
theorem dX11_isStepsRead_3 : decode cX11_isStepsRead 3 = .ok (.iconst 0, 1) := by decide +kernel
theorem dX11_isStepsRead_4 : decode cX11_isStepsRead 4 = .ok (.invokevirtual 108, 3) := by decide +kernel
theorem dX11_isStepsRead_7 : decode cX11_isStepsRead 7 = .ok (.istore_n 3, 1) := by decide +kernel
theorem dX11_isStepsRead_8 : decode cX11_isStepsRead 8 = .ok (.iconst 1, 1) := by decide +kernel
theorem dX11_isStepsRead_9 : decode cX11_isStepsRead 9 = .ok (.istore 4, 2) := by decide +kernel
theorem dX11_isStepsRead_11 : decode cX11_isStepsRead 11 = .ok (.iload_n 3, 1) := by decide +kernel
theorem dX11_isStepsRead_12 : decode cX11_isStepsRead 12 = .ok (.ifCond .eq 36, 3) := by decide +kernel
theorem dX11_isStepsRead_15 : decode cX11_isStepsRead 15 = .ok (.aload_n 0, 1) := by decide +kernel
theorem dX11_isStepsRead_16 : decode cX11_isStepsRead 16 = .ok (.invokevirtual 74, 3) := by decide +kernel
theorem dX11_isStepsRead_19 : decode cX11_isStepsRead 19 = .ok (.bipush 59, 2) := by decide +kernel
theorem dX11_isStepsRead_21 : decode cX11_isStepsRead 21 = .ok (.if_icmp .ne 27, 3) := by decide +kernel
theorem dX11_isStepsRead_24 : decode cX11_isStepsRead 24 = .ok (.aload_n 0, 1) := by decide +kernel
theorem dX11_isStepsRead_25 : decode cX11_isStepsRead 25 = .ok (.dup, 1) := by decide +kernel
theorem dX11_isStepsRead_26 : decode cX11_isStepsRead 26 = .ok (.getfield 65, 3) := by decide +kernel
theorem dX11_isStepsRead_29 : decode cX11_isStepsRead 29 = .ok (.iconst 1, 1) := by decide +kernel
theorem dX11_isStepsRead_30 : decode cX11_isStepsRead 30 = .ok (.iadd, 1) := by decide +kernel
theorem dX11_isStepsRead_31 : decode cX11_isStepsRead 31 = .ok (.putfield 65, 3) := by decide +kernel
theorem dX11_isStepsRead_34 : decode cX11_isStepsRead 34 = .ok (.iinc 4 1, 3) := by decide +kernel
theorem dX11_isStepsRead_37 : decode cX11_isStepsRead 37 = .ok (.aload_n 0, 1) := by decide +kernel
theorem dX11_isStepsRead_38 : decode cX11_isStepsRead 38 = .ok (.iload_n 1, 1) := by decide +kernel
theorem dX11_isStepsRead_39 : decode cX11_isStepsRead 39 = .ok (.iload_n 2, 1) := by decide +kernel
theorem dX11_isStepsRead_40 : decode cX11_isStepsRead 40 = .ok (.iconst 0, 1) := by decide +kernel
theorem dX11_isStepsRead_41 : decode cX11_isStepsRead 41 = .ok (.invokevirtual 108, 3) := by decide +kernel
theorem dX11_isStepsRead_44 : decode cX11_isStepsRead 44 = .ok (.istore_n 3, 1) := by decide +kernel
theorem dX11_isStepsRead_45 : decode cX11_isStepsRead 45 = .ok (.goto (-34), 3) := by decide +kernel
theorem dX11_isStepsRead_48 : decode cX11_isStepsRead 48 = .ok (.aload_n 0, 1) := by decide +kernel
theorem dX11_isStepsRead_49 : decode cX11_isStepsRead 49 = .ok (.iload 4, 2) := by decide +kernel
theorem dX11_isStepsRead_51 : decode cX11_isStepsRead 51 = .ok (.putfield 112, 3) := by decide +kernel
theorem dX11_isStepsRead_54 : decode cX11_isStepsRead 54 = .ok (.iload_n 3, 1) := by decide +kernel
theorem dX11_isStepsRead_55 : decode cX11_isStepsRead 55 = .ok (.ireturn, 1) := by decide +kernel
theorem dX11_begins_0 : decode cX11_begins 0 = .ok (.aload_n 0, 1) := by decide +kernel
theorem dX11_begins_1 : decode cX11_begins 1 = .ok (.aload_n 1, 1) := by decide +kernel
theorem dX11_begins_2 : decode cX11_begins 2 = .ok (.putfield 27, 3) := by decide +kernel
theorem dX11_begins_5 : decode cX11_begins 5 = .ok (.aload_n 0, 1) := by decide +kernel
theorem dX11_begins_6 : decode cX11_begins 6 = .ok (.iload_n 2, 1) := by decide +kernel
theorem dX11_begins_7 : decode cX11_begins 7 = .ok (.putfield 65, 3) := by decide +kernel
theorem dX11_begins_10 : decode cX11_begins 10 = .ok (.aload_n 0, 1) := by decide +kernel
theorem dX11_begins_11 : decode cX11_begins 11 = .ok (.iload_n 3, 1) := by decide +kernel
theorem dX11_begins_12 : decode cX11_begins 12 = .ok (.putfield 68, 3) := by decide +kernel
theorem dX11_begins_15 : decode cX11_begins 15 = .ok (.aload_n 0, 1) := by decide +kernel
theorem dX11_begins_16 : decode cX11_begins 16 = .ok (.iconst (-1), 1) := by decide +kernel
theorem dX11_begins_17 : decode cX11_begins 17 = .ok (.putfield 71, 3) := by decide +kernel
theorem dX11_begins_20 : decode cX11_begins 20 = .ok (.aload_n 0, 1) := by decide +kernel
theorem dX11_begins_21 : decode cX11_begins 21 = .ok (.iconst 0, 1) := by decide +kernel
theorem dX11_begins_22 : decode cX11_begins 22 = .ok (.putfield 99, 3) := by decide +kernel
theorem dX11_begins_25 : decode cX11_begins 25 = .ok (.return_, 1) := by decide +kernel
theorem dX11_isWhole_0 : decode cX11_isWhole 0 = .ok (.aload_n 0, 1) := by decide +kernel
theorem dX11_isWhole_1 : decode cX11_isWhole 1 = .ok (.getfield 65, 3) := by decide +kernel
theorem dX11_isWhole_4 : decode cX11_isWhole 4 = .ok (.aload_n 0, 1) := by decide +kernel
theorem dX11_isWhole_5 : decode cX11_isWhole 5 = .ok (.getfield 68, 3) := by decide +kernel
theorem dX11_isWhole_8 : decode cX11_isWhole 8 = .ok (.if_icmp .ne 10, 3) := by decide +kernel
theorem dX11_isWhole_11 : decode cX11_isWhole 11 = .ok (.aload_n 0, 1) := by decide +kernel
theorem dX11_isWhole_12 : decode cX11_isWhole 12 = .ok (.getfield 99, 3) := by decide +kernel
theorem dX11_isWhole_15 : decode cX11_isWhole 15 = .ok (.ifCond .eq 14, 3) := by decide +kernel
theorem dX11_isWhole_18 : decode cX11_isWhole 18 = .ok (.aload_n 0, 1) := by decide +kernel
theorem dX11_isWhole_19 : decode cX11_isWhole 19 = .ok (.aload_n 0, 1) := by decide +kernel
theorem dX11_isWhole_20 : decode cX11_isWhole 20 = .ok (.getfield 65, 3) := by decide +kernel
theorem dX11_isWhole_23 : decode cX11_isWhole 23 = .ok (.invokevirtual 78, 3) := by decide +kernel
theorem dX11_isWhole_26 : decode cX11_isWhole 26 = .ok (.ifCond .eq 7, 3) := by decide +kernel
theorem dX11_isWhole_29 : decode cX11_isWhole 29 = .ok (.iconst 1, 1) := by decide +kernel
theorem dX11_isWhole_30 : decode cX11_isWhole 30 = .ok (.goto 4, 3) := by decide +kernel
theorem dX11_isWhole_33 : decode cX11_isWhole 33 = .ok (.iconst 0, 1) := by decide +kernel
theorem dX11_isWhole_34 : decode cX11_isWhole 34 = .ok (.ireturn, 1) := by decide +kernel
theorem dX11_stepsIn_0 : decode cX11_stepsIn 0 = .ok (.iload_n 1, 1) := by decide +kernel
theorem dX11_stepsIn_1 : decode cX11_stepsIn 1 = .ok (.iload_n 2, 1) := by decide +kernel
theorem dX11_stepsIn_2 : decode cX11_stepsIn 2 = .ok (.if_icmp .ne 5, 3) := by decide +kernel
theorem dX11_stepsIn_5 : decode cX11_stepsIn 5 = .ok (.iconst 0, 1) := by decide +kernel
theorem dX11_stepsIn_6 : decode cX11_stepsIn 6 = .ok (.ireturn, 1) := by decide +kernel
theorem dX11_stepsIn_7 : decode cX11_stepsIn 7 = .ok (.aload_n 0, 1) := by decide +kernel
theorem dX11_stepsIn_8 : decode cX11_stepsIn 8 = .ok (.aload_n 0, 1) := by decide +kernel
theorem dX11_stepsIn_9 : decode cX11_stepsIn 9 = .ok (.getfield 21, 3) := by decide +kernel
theorem dX11_stepsIn_12 : decode cX11_stepsIn 12 = .ok (.iload_n 1, 1) := by decide +kernel
theorem dX11_stepsIn_13 : decode cX11_stepsIn 13 = .ok (.iload_n 2, 1) := by decide +kernel
theorem dX11_stepsIn_14 : decode cX11_stepsIn 14 = .ok (.invokevirtual 115, 3) := by decide +kernel
theorem dX11_stepsIn_17 : decode cX11_stepsIn 17 = .ok (.aload_n 0, 1) := by decide +kernel
theorem dX11_stepsIn_18 : decode cX11_stepsIn 18 = .ok (.bipush 90, 2) := by decide +kernel
theorem dX11_stepsIn_20 : decode cX11_stepsIn 20 = .ok (.putfield 99, 3) := by decide +kernel
theorem dX11_stepsIn_23 : decode cX11_stepsIn 23 = .ok (.aload_n 0, 1) := by decide +kernel
theorem dX11_stepsIn_24 : decode cX11_stepsIn 24 = .ok (.iconst 0, 1) := by decide +kernel
theorem dX11_stepsIn_25 : decode cX11_stepsIn 25 = .ok (.iconst 1, 1) := by decide +kernel
theorem dX11_stepsIn_26 : decode cX11_stepsIn 26 = .ok (.invokevirtual 92, 3) := by decide +kernel
theorem dX11_stepsIn_29 : decode cX11_stepsIn 29 = .ok (.pop, 1) := by decide +kernel
theorem dX11_stepsIn_30 : decode cX11_stepsIn 30 = .ok (.aload_n 0, 1) := by decide +kernel
theorem dX11_stepsIn_31 : decode cX11_stepsIn 31 = .ok (.getfield 112, 3) := by decide +kernel
theorem dX11_stepsIn_34 : decode cX11_stepsIn 34 = .ok (.ireturn, 1) := by decide +kernel
theorem dX11_pooled_0 : decode cX11_pooled 0 = .ok (.aload_n 0, 1) := by decide +kernel
theorem dX11_pooled_1 : decode cX11_pooled 1 = .ok (.getfield 11, 3) := by decide +kernel
theorem dX11_pooled_4 : decode cX11_pooled 4 = .ok (.bipush 8, 2) := by decide +kernel
theorem dX11_pooled_6 : decode cX11_pooled 6 = .ok (.iaload, 1) := by decide +kernel
theorem dX11_pooled_7 : decode cX11_pooled 7 = .ok (.istore_n 3, 1) := by decide +kernel
theorem dX11_pooled_8 : decode cX11_pooled 8 = .ok (.iload_n 1, 1) := by decide +kernel
theorem dX11_pooled_9 : decode cX11_pooled 9 = .ok (.istore 4, 2) := by decide +kernel
theorem dX11_pooled_11 : decode cX11_pooled 11 = .ok (.iload 4, 2) := by decide +kernel
theorem dX11_pooled_13 : decode cX11_pooled 13 = .ok (.iload_n 2, 1) := by decide +kernel
theorem dX11_pooled_14 : decode cX11_pooled 14 = .ok (.if_icmp .ge 27, 3) := by decide +kernel
theorem dX11_pooled_17 : decode cX11_pooled 17 = .ok (.aload_n 0, 1) := by decide +kernel
theorem dX11_pooled_18 : decode cX11_pooled 18 = .ok (.getfield 21, 3) := by decide +kernel
theorem dX11_pooled_21 : decode cX11_pooled 21 = .ok (.iload_n 3, 1) := by decide +kernel
theorem dX11_pooled_22 : decode cX11_pooled 22 = .ok (.iload 4, 2) := by decide +kernel
theorem dX11_pooled_24 : decode cX11_pooled 24 = .ok (.iadd, 1) := by decide +kernel
theorem dX11_pooled_25 : decode cX11_pooled 25 = .ok (.iload_n 1, 1) := by decide +kernel
theorem dX11_pooled_26 : decode cX11_pooled 26 = .ok (.isub, 1) := by decide +kernel
theorem dX11_pooled_27 : decode cX11_pooled 27 = .ok (.aload_n 0, 1) := by decide +kernel
theorem dX11_pooled_28 : decode cX11_pooled 28 = .ok (.getfield 24, 3) := by decide +kernel
theorem dX11_pooled_31 : decode cX11_pooled 31 = .ok (.iload 4, 2) := by decide +kernel
theorem dX11_pooled_33 : decode cX11_pooled 33 = .ok (.iaload, 1) := by decide +kernel
theorem dX11_pooled_34 : decode cX11_pooled 34 = .ok (.iastore, 1) := by decide +kernel
theorem dX11_pooled_35 : decode cX11_pooled 35 = .ok (.iinc 4 1, 3) := by decide +kernel
theorem dX11_pooled_38 : decode cX11_pooled 38 = .ok (.goto (-27), 3) := by decide +kernel
theorem dX11_pooled_41 : decode cX11_pooled 41 = .ok (.aload_n 0, 1) := by decide +kernel
theorem dX11_pooled_42 : decode cX11_pooled 42 = .ok (.getfield 21, 3) := by decide +kernel
theorem dX11_pooled_45 : decode cX11_pooled 45 = .ok (.iload_n 3, 1) := by decide +kernel
theorem dX11_pooled_46 : decode cX11_pooled 46 = .ok (.iload_n 2, 1) := by decide +kernel
theorem dX11_pooled_47 : decode cX11_pooled 47 = .ok (.iadd, 1) := by decide +kernel
theorem dX11_pooled_48 : decode cX11_pooled 48 = .ok (.iload_n 1, 1) := by decide +kernel
theorem dX11_pooled_49 : decode cX11_pooled 49 = .ok (.isub, 1) := by decide +kernel
theorem dX11_pooled_50 : decode cX11_pooled 50 = .ok (.iconst 0, 1) := by decide +kernel
theorem dX11_pooled_51 : decode cX11_pooled 51 = .ok (.iastore, 1) := by decide +kernel
theorem dX11_pooled_52 : decode cX11_pooled 52 = .ok (.aload_n 0, 1) := by decide +kernel
theorem dX11_pooled_53 : decode cX11_pooled 53 = .ok (.getfield 11, 3) := by decide +kernel
theorem dX11_pooled_56 : decode cX11_pooled 56 = .ok (.bipush 8, 2) := by decide +kernel
theorem dX11_pooled_58 : decode cX11_pooled 58 = .ok (.dup2, 1) := by decide +kernel
theorem dX11_pooled_59 : decode cX11_pooled 59 = .ok (.iaload, 1) := by decide +kernel
theorem dX11_pooled_60 : decode cX11_pooled 60 = .ok (.iload_n 2, 1) := by decide +kernel
theorem dX11_pooled_61 : decode cX11_pooled 61 = .ok (.iload_n 1, 1) := by decide +kernel
theorem dX11_pooled_62 : decode cX11_pooled 62 = .ok (.isub, 1) := by decide +kernel
