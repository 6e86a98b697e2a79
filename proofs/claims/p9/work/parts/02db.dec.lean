def tX9_planned_166 : List (Nat × Instr × Nat) := [(166, .goto 4, 3), (169, .iconst (-1), 1), (170, .ireturn, 1)]
theorem tX9_planned_166_ok : dAll cX9_planned tX9_planned_166 = true := by decide +kernel
theorem dX9_planned_166 : decode cX9_planned 166 = .ok (.goto 4, 3) := dAt tX9_planned_166_ok 0 rfl
theorem dX9_planned_169 : decode cX9_planned 169 = .ok (.iconst (-1), 1) := dAt tX9_planned_166_ok 1 rfl
theorem dX9_planned_170 : decode cX9_planned 170 = .ok (.ireturn, 1) := dAt tX9_planned_166_ok 2 rfl
def tX9_placeOfEntry_0 : List (Nat × Instr × Nat) := [(0, .iconst 0, 1), (1, .istore_n 2, 1), (2, .iload_n 2, 1), (3, .aload_n 0, 1), (4, .getfield 41, 3), (7, .getfield 144, 3), (10, .if_icmp .ge 23, 3), (13, .aload_n 0, 1), (14, .getfield 41, 3), (17, .iload_n 2, 1), (18, .invokevirtual 147, 3), (21, .iload_n 1, 1), (22, .if_icmp .ne 5, 3), (25, .iload_n 2, 1), (26, .ireturn, 1), (27, .iinc 2 1, 3), (30, .goto (-28), 3), (33, .iconst (-1), 1), (34, .ireturn, 1)]
theorem tX9_placeOfEntry_0_ok : dAll cX9_placeOfEntry tX9_placeOfEntry_0 = true := by decide +kernel
theorem dX9_placeOfEntry_0 : decode cX9_placeOfEntry 0 = .ok (.iconst 0, 1) := dAt tX9_placeOfEntry_0_ok 0 rfl
theorem dX9_placeOfEntry_1 : decode cX9_placeOfEntry 1 = .ok (.istore_n 2, 1) := dAt tX9_placeOfEntry_0_ok 1 rfl
theorem dX9_placeOfEntry_2 : decode cX9_placeOfEntry 2 = .ok (.iload_n 2, 1) := dAt tX9_placeOfEntry_0_ok 2 rfl
theorem dX9_placeOfEntry_3 : decode cX9_placeOfEntry 3 = .ok (.aload_n 0, 1) := dAt tX9_placeOfEntry_0_ok 3 rfl
theorem dX9_placeOfEntry_4 : decode cX9_placeOfEntry 4 = .ok (.getfield 41, 3) := dAt tX9_placeOfEntry_0_ok 4 rfl
theorem dX9_placeOfEntry_7 : decode cX9_placeOfEntry 7 = .ok (.getfield 144, 3) := dAt tX9_placeOfEntry_0_ok 5 rfl
theorem dX9_placeOfEntry_10 : decode cX9_placeOfEntry 10 = .ok (.if_icmp .ge 23, 3) := dAt tX9_placeOfEntry_0_ok 6 rfl
theorem dX9_placeOfEntry_13 : decode cX9_placeOfEntry 13 = .ok (.aload_n 0, 1) := dAt tX9_placeOfEntry_0_ok 7 rfl
theorem dX9_placeOfEntry_14 : decode cX9_placeOfEntry 14 = .ok (.getfield 41, 3) := dAt tX9_placeOfEntry_0_ok 8 rfl
theorem dX9_placeOfEntry_17 : decode cX9_placeOfEntry 17 = .ok (.iload_n 2, 1) := dAt tX9_placeOfEntry_0_ok 9 rfl
theorem dX9_placeOfEntry_18 : decode cX9_placeOfEntry 18 = .ok (.invokevirtual 147, 3) := dAt tX9_placeOfEntry_0_ok 10 rfl
theorem dX9_placeOfEntry_21 : decode cX9_placeOfEntry 21 = .ok (.iload_n 1, 1) := dAt tX9_placeOfEntry_0_ok 11 rfl
theorem dX9_placeOfEntry_22 : decode cX9_placeOfEntry 22 = .ok (.if_icmp .ne 5, 3) := dAt tX9_placeOfEntry_0_ok 12 rfl
theorem dX9_placeOfEntry_25 : decode cX9_placeOfEntry 25 = .ok (.iload_n 2, 1) := dAt tX9_placeOfEntry_0_ok 13 rfl
theorem dX9_placeOfEntry_26 : decode cX9_placeOfEntry 26 = .ok (.ireturn, 1) := dAt tX9_placeOfEntry_0_ok 14 rfl
theorem dX9_placeOfEntry_27 : decode cX9_placeOfEntry 27 = .ok (.iinc 2 1, 3) := dAt tX9_placeOfEntry_0_ok 15 rfl
theorem dX9_placeOfEntry_30 : decode cX9_placeOfEntry 30 = .ok (.goto (-28), 3) := dAt tX9_placeOfEntry_0_ok 16 rfl
theorem dX9_placeOfEntry_33 : decode cX9_placeOfEntry 33 = .ok (.iconst (-1), 1) := dAt tX9_placeOfEntry_0_ok 17 rfl
theorem dX9_placeOfEntry_34 : decode cX9_placeOfEntry 34 = .ok (.ireturn, 1) := dAt tX9_placeOfEntry_0_ok 18 rfl
def tX9_isWithin_0 : List (Nat × Instr × Nat) := [(0, .iload_n 1, 1), (1, .istore_n 3, 1), (2, .iconst 0, 1), (3, .istore 4, 2), (5, .iload 4, 2), (7, .bipush 60, 2), (9, .if_icmp .ge 29, 3), (12, .iload_n 3, 1), (13, .ifCond .lt 25, 3), (16, .iload_n 3, 1), (17, .iload_n 2, 1), (18, .if_icmp .ne 5, 3), (21, .iconst 1, 1), (22, .ireturn, 1), (23, .aload_n 0, 1), (24, .bipush 100, 2), (26, .iload_n 3, 1), (27, .iadd, 1), (28, .invokevirtual 151, 3), (31, .istore_n 3, 1), (32, .iinc 4 1, 3), (35, .goto (-30), 3), (38, .iconst 0, 1), (39, .ireturn, 1)]
theorem tX9_isWithin_0_ok : dAll cX9_isWithin tX9_isWithin_0 = true := by decide +kernel
theorem dX9_isWithin_0 : decode cX9_isWithin 0 = .ok (.iload_n 1, 1) := dAt tX9_isWithin_0_ok 0 rfl
theorem dX9_isWithin_1 : decode cX9_isWithin 1 = .ok (.istore_n 3, 1) := dAt tX9_isWithin_0_ok 1 rfl
theorem dX9_isWithin_2 : decode cX9_isWithin 2 = .ok (.iconst 0, 1) := dAt tX9_isWithin_0_ok 2 rfl
theorem dX9_isWithin_3 : decode cX9_isWithin 3 = .ok (.istore 4, 2) := dAt tX9_isWithin_0_ok 3 rfl
theorem dX9_isWithin_5 : decode cX9_isWithin 5 = .ok (.iload 4, 2) := dAt tX9_isWithin_0_ok 4 rfl
theorem dX9_isWithin_7 : decode cX9_isWithin 7 = .ok (.bipush 60, 2) := dAt tX9_isWithin_0_ok 5 rfl
theorem dX9_isWithin_9 : decode cX9_isWithin 9 = .ok (.if_icmp .ge 29, 3) := dAt tX9_isWithin_0_ok 6 rfl
theorem dX9_isWithin_12 : decode cX9_isWithin 12 = .ok (.iload_n 3, 1) := dAt tX9_isWithin_0_ok 7 rfl
theorem dX9_isWithin_13 : decode cX9_isWithin 13 = .ok (.ifCond .lt 25, 3) := dAt tX9_isWithin_0_ok 8 rfl
theorem dX9_isWithin_16 : decode cX9_isWithin 16 = .ok (.iload_n 3, 1) := dAt tX9_isWithin_0_ok 9 rfl
theorem dX9_isWithin_17 : decode cX9_isWithin 17 = .ok (.iload_n 2, 1) := dAt tX9_isWithin_0_ok 10 rfl
theorem dX9_isWithin_18 : decode cX9_isWithin 18 = .ok (.if_icmp .ne 5, 3) := dAt tX9_isWithin_0_ok 11 rfl
theorem dX9_isWithin_21 : decode cX9_isWithin 21 = .ok (.iconst 1, 1) := dAt tX9_isWithin_0_ok 12 rfl
theorem dX9_isWithin_22 : decode cX9_isWithin 22 = .ok (.ireturn, 1) := dAt tX9_isWithin_0_ok 13 rfl
theorem dX9_isWithin_23 : decode cX9_isWithin 23 = .ok (.aload_n 0, 1) := dAt tX9_isWithin_0_ok 14 rfl
theorem dX9_isWithin_24 : decode cX9_isWithin 24 = .ok (.bipush 100, 2) := dAt tX9_isWithin_0_ok 15 rfl
theorem dX9_isWithin_26 : decode cX9_isWithin 26 = .ok (.iload_n 3, 1) := dAt tX9_isWithin_0_ok 16 rfl
theorem dX9_isWithin_27 : decode cX9_isWithin 27 = .ok (.iadd, 1) := dAt tX9_isWithin_0_ok 17 rfl
theorem dX9_isWithin_28 : decode cX9_isWithin 28 = .ok (.invokevirtual 151, 3) := dAt tX9_isWithin_0_ok 18 rfl
theorem dX9_isWithin_31 : decode cX9_isWithin 31 = .ok (.istore_n 3, 1) := dAt tX9_isWithin_0_ok 19 rfl
theorem dX9_isWithin_32 : decode cX9_isWithin 32 = .ok (.iinc 4 1, 3) := dAt tX9_isWithin_0_ok 20 rfl
theorem dX9_isWithin_35 : decode cX9_isWithin 35 = .ok (.goto (-30), 3) := dAt tX9_isWithin_0_ok 21 rfl
theorem dX9_isWithin_38 : decode cX9_isWithin 38 = .ok (.iconst 0, 1) := dAt tX9_isWithin_0_ok 22 rfl
theorem dX9_isWithin_39 : decode cX9_isWithin 39 = .ok (.ireturn, 1) := dAt tX9_isWithin_0_ok 23 rfl
def tX9_scopesAbove_0 : List (Nat × Instr × Nat) := [(0, .iconst 0, 1), (1, .istore_n 2, 1), (2, .aload_n 0, 1), (3, .bipush 100, 2), (5, .iload_n 1, 1), (6, .iadd, 1), (7, .invokevirtual 151, 3), (10, .istore_n 3, 1), (11, .iload_n 3, 1), (12, .ifCond .lt 24, 3), (15, .iload_n 2, 1), (16, .bipush 60, 2), (18, .if_icmp .ge 18, 3), (21, .aload_n 0, 1), (22, .bipush 100, 2), (24, .iload_n 3, 1), (25, .iadd, 1), (26, .invokevirtual 151, 3), (29, .istore_n 3, 1), (30, .iinc 2 1, 3), (33, .goto (-22), 3), (36, .iload_n 2, 1), (37, .ireturn, 1)]
theorem tX9_scopesAbove_0_ok : dAll cX9_scopesAbove tX9_scopesAbove_0 = true := by decide +kernel
theorem dX9_scopesAbove_0 : decode cX9_scopesAbove 0 = .ok (.iconst 0, 1) := dAt tX9_scopesAbove_0_ok 0 rfl
theorem dX9_scopesAbove_1 : decode cX9_scopesAbove 1 = .ok (.istore_n 2, 1) := dAt tX9_scopesAbove_0_ok 1 rfl
theorem dX9_scopesAbove_2 : decode cX9_scopesAbove 2 = .ok (.aload_n 0, 1) := dAt tX9_scopesAbove_0_ok 2 rfl
theorem dX9_scopesAbove_3 : decode cX9_scopesAbove 3 = .ok (.bipush 100, 2) := dAt tX9_scopesAbove_0_ok 3 rfl
theorem dX9_scopesAbove_5 : decode cX9_scopesAbove 5 = .ok (.iload_n 1, 1) := dAt tX9_scopesAbove_0_ok 4 rfl
theorem dX9_scopesAbove_6 : decode cX9_scopesAbove 6 = .ok (.iadd, 1) := dAt tX9_scopesAbove_0_ok 5 rfl
theorem dX9_scopesAbove_7 : decode cX9_scopesAbove 7 = .ok (.invokevirtual 151, 3) := dAt tX9_scopesAbove_0_ok 6 rfl
theorem dX9_scopesAbove_10 : decode cX9_scopesAbove 10 = .ok (.istore_n 3, 1) := dAt tX9_scopesAbove_0_ok 7 rfl
theorem dX9_scopesAbove_11 : decode cX9_scopesAbove 11 = .ok (.iload_n 3, 1) := dAt tX9_scopesAbove_0_ok 8 rfl
theorem dX9_scopesAbove_12 : decode cX9_scopesAbove 12 = .ok (.ifCond .lt 24, 3) := dAt tX9_scopesAbove_0_ok 9 rfl
theorem dX9_scopesAbove_15 : decode cX9_scopesAbove 15 = .ok (.iload_n 2, 1) := dAt tX9_scopesAbove_0_ok 10 rfl
theorem dX9_scopesAbove_16 : decode cX9_scopesAbove 16 = .ok (.bipush 60, 2) := dAt tX9_scopesAbove_0_ok 11 rfl
theorem dX9_scopesAbove_18 : decode cX9_scopesAbove 18 = .ok (.if_icmp .ge 18, 3) := dAt tX9_scopesAbove_0_ok 12 rfl
theorem dX9_scopesAbove_21 : decode cX9_scopesAbove 21 = .ok (.aload_n 0, 1) := dAt tX9_scopesAbove_0_ok 13 rfl
theorem dX9_scopesAbove_22 : decode cX9_scopesAbove 22 = .ok (.bipush 100, 2) := dAt tX9_scopesAbove_0_ok 14 rfl
theorem dX9_scopesAbove_24 : decode cX9_scopesAbove 24 = .ok (.iload_n 3, 1) := dAt tX9_scopesAbove_0_ok 15 rfl
theorem dX9_scopesAbove_25 : decode cX9_scopesAbove 25 = .ok (.iadd, 1) := dAt tX9_scopesAbove_0_ok 16 rfl
theorem dX9_scopesAbove_26 : decode cX9_scopesAbove 26 = .ok (.invokevirtual 151, 3) := dAt tX9_scopesAbove_0_ok 17 rfl
theorem dX9_scopesAbove_29 : decode cX9_scopesAbove 29 = .ok (.istore_n 3, 1) := dAt tX9_scopesAbove_0_ok 18 rfl
theorem dX9_scopesAbove_30 : decode cX9_scopesAbove 30 = .ok (.iinc 2 1, 3) := dAt tX9_scopesAbove_0_ok 19 rfl
theorem dX9_scopesAbove_33 : decode cX9_scopesAbove 33 = .ok (.goto (-22), 3) := dAt tX9_scopesAbove_0_ok 20 rfl
theorem dX9_scopesAbove_36 : decode cX9_scopesAbove 36 = .ok (.iload_n 2, 1) := dAt tX9_scopesAbove_0_ok 21 rfl
theorem dX9_scopesAbove_37 : decode cX9_scopesAbove 37 = .ok (.ireturn, 1) := dAt tX9_scopesAbove_0_ok 22 rfl
def tX9_heldWithin_0 : List (Nat × Instr × Nat) := [(0, .iconst 0, 1), (1, .istore_n 2, 1), (2, .iconst 0, 1), (3, .istore_n 3, 1), (4, .iload_n 3, 1), (5, .aload_n 0, 1), (6, .getfield 71, 3), (9, .if_icmp .ge 33, 3), (12, .aload_n 0, 1), (13, .iload_n 3, 1), (14, .invokevirtual 157, 3), (17, .ifCond .eq 19, 3), (20, .aload_n 0, 1), (21, .aload_n 0, 1), (22, .iload_n 3, 1), (23, .invokevirtual 151, 3), (26, .iload_n 1, 1), (27, .invokevirtual 164, 3), (30, .ifCond .eq 6, 3), (33, .iinc 2 1, 3), (36, .iinc 3 1, 3), (39, .goto (-35), 3), (42, .iload_n 2, 1), (43, .ireturn, 1)]
theorem tX9_heldWithin_0_ok : dAll cX9_heldWithin tX9_heldWithin_0 = true := by decide +kernel
theorem dX9_heldWithin_0 : decode cX9_heldWithin 0 = .ok (.iconst 0, 1) := dAt tX9_heldWithin_0_ok 0 rfl
theorem dX9_heldWithin_1 : decode cX9_heldWithin 1 = .ok (.istore_n 2, 1) := dAt tX9_heldWithin_0_ok 1 rfl
theorem dX9_heldWithin_2 : decode cX9_heldWithin 2 = .ok (.iconst 0, 1) := dAt tX9_heldWithin_0_ok 2 rfl
theorem dX9_heldWithin_3 : decode cX9_heldWithin 3 = .ok (.istore_n 3, 1) := dAt tX9_heldWithin_0_ok 3 rfl
theorem dX9_heldWithin_4 : decode cX9_heldWithin 4 = .ok (.iload_n 3, 1) := dAt tX9_heldWithin_0_ok 4 rfl
theorem dX9_heldWithin_5 : decode cX9_heldWithin 5 = .ok (.aload_n 0, 1) := dAt tX9_heldWithin_0_ok 5 rfl
theorem dX9_heldWithin_6 : decode cX9_heldWithin 6 = .ok (.getfield 71, 3) := dAt tX9_heldWithin_0_ok 6 rfl
theorem dX9_heldWithin_9 : decode cX9_heldWithin 9 = .ok (.if_icmp .ge 33, 3) := dAt tX9_heldWithin_0_ok 7 rfl
theorem dX9_heldWithin_12 : decode cX9_heldWithin 12 = .ok (.aload_n 0, 1) := dAt tX9_heldWithin_0_ok 8 rfl
theorem dX9_heldWithin_13 : decode cX9_heldWithin 13 = .ok (.iload_n 3, 1) := dAt tX9_heldWithin_0_ok 9 rfl
theorem dX9_heldWithin_14 : decode cX9_heldWithin 14 = .ok (.invokevirtual 157, 3) := dAt tX9_heldWithin_0_ok 10 rfl
theorem dX9_heldWithin_17 : decode cX9_heldWithin 17 = .ok (.ifCond .eq 19, 3) := dAt tX9_heldWithin_0_ok 11 rfl
theorem dX9_heldWithin_20 : decode cX9_heldWithin 20 = .ok (.aload_n 0, 1) := dAt tX9_heldWithin_0_ok 12 rfl
theorem dX9_heldWithin_21 : decode cX9_heldWithin 21 = .ok (.aload_n 0, 1) := dAt tX9_heldWithin_0_ok 13 rfl
theorem dX9_heldWithin_22 : decode cX9_heldWithin 22 = .ok (.iload_n 3, 1) := dAt tX9_heldWithin_0_ok 14 rfl
theorem dX9_heldWithin_23 : decode cX9_heldWithin 23 = .ok (.invokevirtual 151, 3) := dAt tX9_heldWithin_0_ok 15 rfl
theorem dX9_heldWithin_26 : decode cX9_heldWithin 26 = .ok (.iload_n 1, 1) := dAt tX9_heldWithin_0_ok 16 rfl
theorem dX9_heldWithin_27 : decode cX9_heldWithin 27 = .ok (.invokevirtual 164, 3) := dAt tX9_heldWithin_0_ok 17 rfl
theorem dX9_heldWithin_30 : decode cX9_heldWithin 30 = .ok (.ifCond .eq 6, 3) := dAt tX9_heldWithin_0_ok 18 rfl
theorem dX9_heldWithin_33 : decode cX9_heldWithin 33 = .ok (.iinc 2 1, 3) := dAt tX9_heldWithin_0_ok 19 rfl
theorem dX9_heldWithin_36 : decode cX9_heldWithin 36 = .ok (.iinc 3 1, 3) := dAt tX9_heldWithin_0_ok 20 rfl
theorem dX9_heldWithin_39 : decode cX9_heldWithin 39 = .ok (.goto (-35), 3) := dAt tX9_heldWithin_0_ok 21 rfl
theorem dX9_heldWithin_42 : decode cX9_heldWithin 42 = .ok (.iload_n 2, 1) := dAt tX9_heldWithin_0_ok 22 rfl
theorem dX9_heldWithin_43 : decode cX9_heldWithin 43 = .ok (.ireturn, 1) := dAt tX9_heldWithin_0_ok 23 rfl
def tX9_youngestWithin_0 : List (Nat × Instr × Nat) := [(0, .aload_n 0, 1), (1, .getfield 71, 3), (4, .iconst 1, 1), (5, .isub, 1), (6, .istore_n 2, 1), (7, .iload_n 2, 1), (8, .ifCond .lt 32, 3), (11, .aload_n 0, 1), (12, .iload_n 2, 1), (13, .invokevirtual 157, 3), (16, .ifCond .eq 18, 3), (19, .aload_n 0, 1), (20, .aload_n 0, 1), (21, .iload_n 2, 1), (22, .invokevirtual 151, 3), (25, .iload_n 1, 1), (26, .invokevirtual 164, 3), (29, .ifCond .eq 5, 3), (32, .iload_n 2, 1), (33, .ireturn, 1), (34, .iinc 2 (-1), 3), (37, .goto (-30), 3), (40, .bipush (-5), 2), (42, .ireturn, 1)]
theorem tX9_youngestWithin_0_ok : dAll cX9_youngestWithin tX9_youngestWithin_0 = true := by decide +kernel
theorem dX9_youngestWithin_0 : decode cX9_youngestWithin 0 = .ok (.aload_n 0, 1) := dAt tX9_youngestWithin_0_ok 0 rfl
theorem dX9_youngestWithin_1 : decode cX9_youngestWithin 1 = .ok (.getfield 71, 3) := dAt tX9_youngestWithin_0_ok 1 rfl
theorem dX9_youngestWithin_4 : decode cX9_youngestWithin 4 = .ok (.iconst 1, 1) := dAt tX9_youngestWithin_0_ok 2 rfl
theorem dX9_youngestWithin_5 : decode cX9_youngestWithin 5 = .ok (.isub, 1) := dAt tX9_youngestWithin_0_ok 3 rfl
theorem dX9_youngestWithin_6 : decode cX9_youngestWithin 6 = .ok (.istore_n 2, 1) := dAt tX9_youngestWithin_0_ok 4 rfl
theorem dX9_youngestWithin_7 : decode cX9_youngestWithin 7 = .ok (.iload_n 2, 1) := dAt tX9_youngestWithin_0_ok 5 rfl
theorem dX9_youngestWithin_8 : decode cX9_youngestWithin 8 = .ok (.ifCond .lt 32, 3) := dAt tX9_youngestWithin_0_ok 6 rfl
theorem dX9_youngestWithin_11 : decode cX9_youngestWithin 11 = .ok (.aload_n 0, 1) := dAt tX9_youngestWithin_0_ok 7 rfl
theorem dX9_youngestWithin_12 : decode cX9_youngestWithin 12 = .ok (.iload_n 2, 1) := dAt tX9_youngestWithin_0_ok 8 rfl
theorem dX9_youngestWithin_13 : decode cX9_youngestWithin 13 = .ok (.invokevirtual 157, 3) := dAt tX9_youngestWithin_0_ok 9 rfl
theorem dX9_youngestWithin_16 : decode cX9_youngestWithin 16 = .ok (.ifCond .eq 18, 3) := dAt tX9_youngestWithin_0_ok 10 rfl
theorem dX9_youngestWithin_19 : decode cX9_youngestWithin 19 = .ok (.aload_n 0, 1) := dAt tX9_youngestWithin_0_ok 11 rfl
theorem dX9_youngestWithin_20 : decode cX9_youngestWithin 20 = .ok (.aload_n 0, 1) := dAt tX9_youngestWithin_0_ok 12 rfl
theorem dX9_youngestWithin_21 : decode cX9_youngestWithin 21 = .ok (.iload_n 2, 1) := dAt tX9_youngestWithin_0_ok 13 rfl
theorem dX9_youngestWithin_22 : decode cX9_youngestWithin 22 = .ok (.invokevirtual 151, 3) := dAt tX9_youngestWithin_0_ok 14 rfl
theorem dX9_youngestWithin_25 : decode cX9_youngestWithin 25 = .ok (.iload_n 1, 1) := dAt tX9_youngestWithin_0_ok 15 rfl
theorem dX9_youngestWithin_26 : decode cX9_youngestWithin 26 = .ok (.invokevirtual 164, 3) := dAt tX9_youngestWithin_0_ok 16 rfl
theorem dX9_youngestWithin_29 : decode cX9_youngestWithin 29 = .ok (.ifCond .eq 5, 3) := dAt tX9_youngestWithin_0_ok 17 rfl
theorem dX9_youngestWithin_32 : decode cX9_youngestWithin 32 = .ok (.iload_n 2, 1) := dAt tX9_youngestWithin_0_ok 18 rfl
theorem dX9_youngestWithin_33 : decode cX9_youngestWithin 33 = .ok (.ireturn, 1) := dAt tX9_youngestWithin_0_ok 19 rfl
theorem dX9_youngestWithin_34 : decode cX9_youngestWithin 34 = .ok (.iinc 2 (-1), 3) := dAt tX9_youngestWithin_0_ok 20 rfl
theorem dX9_youngestWithin_37 : decode cX9_youngestWithin 37 = .ok (.goto (-30), 3) := dAt tX9_youngestWithin_0_ok 21 rfl
theorem dX9_youngestWithin_40 : decode cX9_youngestWithin 40 = .ok (.bipush (-5), 2) := dAt tX9_youngestWithin_0_ok 22 rfl
theorem dX9_youngestWithin_42 : decode cX9_youngestWithin 42 = .ok (.ireturn, 1) := dAt tX9_youngestWithin_0_ok 23 rfl
def tX9_openScopes_0 : List (Nat × Instr × Nat) := [(0, .iconst 0, 1), (1, .istore_n 1, 1), (2, .iconst 0, 1), (3, .istore_n 2, 1), (4, .iload_n 2, 1), (5, .aload_n 0, 1), (6, .getfield 57, 3), (9, .if_icmp .ge 20, 3), (12, .aload_n 0, 1), (13, .iload_n 2, 1), (14, .invokevirtual 154, 3), (17, .ifCond .eq 6, 3), (20, .iinc 1 1, 3), (23, .iinc 2 1, 3), (26, .goto (-22), 3), (29, .iload_n 1, 1), (30, .ireturn, 1)]
theorem tX9_openScopes_0_ok : dAll cX9_openScopes tX9_openScopes_0 = true := by decide +kernel
theorem dX9_openScopes_0 : decode cX9_openScopes 0 = .ok (.iconst 0, 1) := dAt tX9_openScopes_0_ok 0 rfl
theorem dX9_openScopes_1 : decode cX9_openScopes 1 = .ok (.istore_n 1, 1) := dAt tX9_openScopes_0_ok 1 rfl
theorem dX9_openScopes_2 : decode cX9_openScopes 2 = .ok (.iconst 0, 1) := dAt tX9_openScopes_0_ok 2 rfl
theorem dX9_openScopes_3 : decode cX9_openScopes 3 = .ok (.istore_n 2, 1) := dAt tX9_openScopes_0_ok 3 rfl
theorem dX9_openScopes_4 : decode cX9_openScopes 4 = .ok (.iload_n 2, 1) := dAt tX9_openScopes_0_ok 4 rfl
theorem dX9_openScopes_5 : decode cX9_openScopes 5 = .ok (.aload_n 0, 1) := dAt tX9_openScopes_0_ok 5 rfl
theorem dX9_openScopes_6 : decode cX9_openScopes 6 = .ok (.getfield 57, 3) := dAt tX9_openScopes_0_ok 6 rfl
theorem dX9_openScopes_9 : decode cX9_openScopes 9 = .ok (.if_icmp .ge 20, 3) := dAt tX9_openScopes_0_ok 7 rfl
theorem dX9_openScopes_12 : decode cX9_openScopes 12 = .ok (.aload_n 0, 1) := dAt tX9_openScopes_0_ok 8 rfl
theorem dX9_openScopes_13 : decode cX9_openScopes 13 = .ok (.iload_n 2, 1) := dAt tX9_openScopes_0_ok 9 rfl
theorem dX9_openScopes_14 : decode cX9_openScopes 14 = .ok (.invokevirtual 154, 3) := dAt tX9_openScopes_0_ok 10 rfl
theorem dX9_openScopes_17 : decode cX9_openScopes 17 = .ok (.ifCond .eq 6, 3) := dAt tX9_openScopes_0_ok 11 rfl
theorem dX9_openScopes_20 : decode cX9_openScopes 20 = .ok (.iinc 1 1, 3) := dAt tX9_openScopes_0_ok 12 rfl
theorem dX9_openScopes_23 : decode cX9_openScopes 23 = .ok (.iinc 2 1, 3) := dAt tX9_openScopes_0_ok 13 rfl
theorem dX9_openScopes_26 : decode cX9_openScopes 26 = .ok (.goto (-22), 3) := dAt tX9_openScopes_0_ok 14 rfl
theorem dX9_openScopes_29 : decode cX9_openScopes 29 = .ok (.iload_n 1, 1) := dAt tX9_openScopes_0_ok 15 rfl
theorem dX9_openScopes_30 : decode cX9_openScopes 30 = .ok (.ireturn, 1) := dAt tX9_openScopes_0_ok 16 rfl
def tX9_nameOf_0 : List (Nat × Instr × Nat) := [(0, .aload_n 0, 1), (1, .iload_n 1, 1), (2, .invokevirtual 96, 3), (5, .astore_n 2, 1), (6, .aload_n 2, 1), (7, .ifnonnull 7, 3), (10, .lconst 0, 1), (11, .goto 7, 3), (14, .aload_n 2, 1), (15, .getfield 106, 3), (18, .lreturn, 1)]
theorem tX9_nameOf_0_ok : dAll cX9_nameOf tX9_nameOf_0 = true := by decide +kernel
theorem dX9_nameOf_0 : decode cX9_nameOf 0 = .ok (.aload_n 0, 1) := dAt tX9_nameOf_0_ok 0 rfl
theorem dX9_nameOf_1 : decode cX9_nameOf 1 = .ok (.iload_n 1, 1) := dAt tX9_nameOf_0_ok 1 rfl
theorem dX9_nameOf_2 : decode cX9_nameOf 2 = .ok (.invokevirtual 96, 3) := dAt tX9_nameOf_0_ok 2 rfl
theorem dX9_nameOf_5 : decode cX9_nameOf 5 = .ok (.astore_n 2, 1) := dAt tX9_nameOf_0_ok 3 rfl
theorem dX9_nameOf_6 : decode cX9_nameOf 6 = .ok (.aload_n 2, 1) := dAt tX9_nameOf_0_ok 4 rfl
theorem dX9_nameOf_7 : decode cX9_nameOf 7 = .ok (.ifnonnull 7, 3) := dAt tX9_nameOf_0_ok 5 rfl
theorem dX9_nameOf_10 : decode cX9_nameOf 10 = .ok (.lconst 0, 1) := dAt tX9_nameOf_0_ok 6 rfl
theorem dX9_nameOf_11 : decode cX9_nameOf 11 = .ok (.goto 7, 3) := dAt tX9_nameOf_0_ok 7 rfl
theorem dX9_nameOf_14 : decode cX9_nameOf 14 = .ok (.aload_n 2, 1) := dAt tX9_nameOf_0_ok 8 rfl
theorem dX9_nameOf_15 : decode cX9_nameOf 15 = .ok (.getfield 106, 3) := dAt tX9_nameOf_0_ok 9 rfl
theorem dX9_nameOf_18 : decode cX9_nameOf 18 = .ok (.lreturn, 1) := dAt tX9_nameOf_0_ok 10 rfl
def tX9_heldWithName_0 : List (Nat × Instr × Nat) := [(0, .iconst 0, 1), (1, .istore_n 3, 1), (2, .iload_n 3, 1), (3, .aload_n 0, 1), (4, .getfield 71, 3), (7, .if_icmp .ge 46, 3), (10, .iload_n 3, 1), (11, .aload_n 0, 1), (12, .getfield 11, 3), (15, .arraylength, 1), (16, .if_icmp .ge 37, 3), (19, .aload_n 0, 1), (20, .getfield 11, 3), (23, .iload_n 3, 1), (24, .aaload, 1), (25, .getfield 114, 3), (28, .ifCond .ne 19, 3), (31, .aload_n 0, 1), (32, .getfield 11, 3), (35, .iload_n 3, 1), (36, .aaload, 1), (37, .getfield 106, 3), (40, .lload_n 1, 1), (41, .lcmp, 1), (42, .ifCond .ne 5, 3), (45, .iload_n 3, 1), (46, .ireturn, 1), (47, .iinc 3 1, 3), (50, .goto (-48), 3), (53, .bipush (-5), 2), (55, .ireturn, 1)]
theorem tX9_heldWithName_0_ok : dAll cX9_heldWithName tX9_heldWithName_0 = true := by decide +kernel
theorem dX9_heldWithName_0 : decode cX9_heldWithName 0 = .ok (.iconst 0, 1) := dAt tX9_heldWithName_0_ok 0 rfl
theorem dX9_heldWithName_1 : decode cX9_heldWithName 1 = .ok (.istore_n 3, 1) := dAt tX9_heldWithName_0_ok 1 rfl
theorem dX9_heldWithName_2 : decode cX9_heldWithName 2 = .ok (.iload_n 3, 1) := dAt tX9_heldWithName_0_ok 2 rfl
theorem dX9_heldWithName_3 : decode cX9_heldWithName 3 = .ok (.aload_n 0, 1) := dAt tX9_heldWithName_0_ok 3 rfl
theorem dX9_heldWithName_4 : decode cX9_heldWithName 4 = .ok (.getfield 71, 3) := dAt tX9_heldWithName_0_ok 4 rfl
theorem dX9_heldWithName_7 : decode cX9_heldWithName 7 = .ok (.if_icmp .ge 46, 3) := dAt tX9_heldWithName_0_ok 5 rfl
theorem dX9_heldWithName_10 : decode cX9_heldWithName 10 = .ok (.iload_n 3, 1) := dAt tX9_heldWithName_0_ok 6 rfl
theorem dX9_heldWithName_11 : decode cX9_heldWithName 11 = .ok (.aload_n 0, 1) := dAt tX9_heldWithName_0_ok 7 rfl
theorem dX9_heldWithName_12 : decode cX9_heldWithName 12 = .ok (.getfield 11, 3) := dAt tX9_heldWithName_0_ok 8 rfl
theorem dX9_heldWithName_15 : decode cX9_heldWithName 15 = .ok (.arraylength, 1) := dAt tX9_heldWithName_0_ok 9 rfl
theorem dX9_heldWithName_16 : decode cX9_heldWithName 16 = .ok (.if_icmp .ge 37, 3) := dAt tX9_heldWithName_0_ok 10 rfl
theorem dX9_heldWithName_19 : decode cX9_heldWithName 19 = .ok (.aload_n 0, 1) := dAt tX9_heldWithName_0_ok 11 rfl
theorem dX9_heldWithName_20 : decode cX9_heldWithName 20 = .ok (.getfield 11, 3) := dAt tX9_heldWithName_0_ok 12 rfl
theorem dX9_heldWithName_23 : decode cX9_heldWithName 23 = .ok (.iload_n 3, 1) := dAt tX9_heldWithName_0_ok 13 rfl
theorem dX9_heldWithName_24 : decode cX9_heldWithName 24 = .ok (.aaload, 1) := dAt tX9_heldWithName_0_ok 14 rfl
theorem dX9_heldWithName_25 : decode cX9_heldWithName 25 = .ok (.getfield 114, 3) := dAt tX9_heldWithName_0_ok 15 rfl
theorem dX9_heldWithName_28 : decode cX9_heldWithName 28 = .ok (.ifCond .ne 19, 3) := dAt tX9_heldWithName_0_ok 16 rfl
theorem dX9_heldWithName_31 : decode cX9_heldWithName 31 = .ok (.aload_n 0, 1) := dAt tX9_heldWithName_0_ok 17 rfl
theorem dX9_heldWithName_32 : decode cX9_heldWithName 32 = .ok (.getfield 11, 3) := dAt tX9_heldWithName_0_ok 18 rfl
theorem dX9_heldWithName_35 : decode cX9_heldWithName 35 = .ok (.iload_n 3, 1) := dAt tX9_heldWithName_0_ok 19 rfl
theorem dX9_heldWithName_36 : decode cX9_heldWithName 36 = .ok (.aaload, 1) := dAt tX9_heldWithName_0_ok 20 rfl
theorem dX9_heldWithName_37 : decode cX9_heldWithName 37 = .ok (.getfield 106, 3) := dAt tX9_heldWithName_0_ok 21 rfl
theorem dX9_heldWithName_40 : decode cX9_heldWithName 40 = .ok (.lload_n 1, 1) := dAt tX9_heldWithName_0_ok 22 rfl
theorem dX9_heldWithName_41 : decode cX9_heldWithName 41 = .ok (.lcmp, 1) := dAt tX9_heldWithName_0_ok 23 rfl
theorem dX9_heldWithName_42 : decode cX9_heldWithName 42 = .ok (.ifCond .ne 5, 3) := dAt tX9_heldWithName_0_ok 24 rfl
theorem dX9_heldWithName_45 : decode cX9_heldWithName 45 = .ok (.iload_n 3, 1) := dAt tX9_heldWithName_0_ok 25 rfl
theorem dX9_heldWithName_46 : decode cX9_heldWithName 46 = .ok (.ireturn, 1) := dAt tX9_heldWithName_0_ok 26 rfl
theorem dX9_heldWithName_47 : decode cX9_heldWithName 47 = .ok (.iinc 3 1, 3) := dAt tX9_heldWithName_0_ok 27 rfl
theorem dX9_heldWithName_50 : decode cX9_heldWithName 50 = .ok (.goto (-48), 3) := dAt tX9_heldWithName_0_ok 28 rfl
theorem dX9_heldWithName_53 : decode cX9_heldWithName 53 = .ok (.bipush (-5), 2) := dAt tX9_heldWithName_0_ok 29 rfl
theorem dX9_heldWithName_55 : decode cX9_heldWithName 55 = .ok (.ireturn, 1) := dAt tX9_heldWithName_0_ok 30 rfl
def tX9_heldFrom_0 : List (Nat × Instr × Nat) := [(0, .bipush (-5), 2), (2, .istore_n 2, 1), (3, .iconst 0, 1), (4, .istore_n 3, 1), (5, .iload_n 3, 1), (6, .aload_n 0, 1), (7, .getfield 71, 3), (10, .if_icmp .ge 49, 3), (13, .aload_n 0, 1), (14, .iload_n 3, 1), (15, .invokevirtual 157, 3), (18, .ifCond .eq 35, 3), (21, .aload_n 0, 1), (22, .iload_n 3, 1), (23, .invokevirtual 168, 3), (26, .aload_n 1, 1), (27, .invokestatic 172, 3), (30, .ifCond .ne 23, 3), (33, .iload_n 2, 1), (34, .ifCond .lt 17, 3), (37, .aload_n 0, 1), (38, .iload_n 3, 1), (39, .invokevirtual 168, 3), (42, .aload_n 0, 1), (43, .iload_n 2, 1), (44, .invokevirtual 168, 3), (47, .lcmp, 1), (48, .ifCond .ge 5, 3), (51, .iload_n 3, 1), (52, .istore_n 2, 1), (53, .iinc 3 1, 3), (56, .goto (-51), 3), (59, .iload_n 2, 1), (60, .ireturn, 1)]
theorem tX9_heldFrom_0_ok : dAll cX9_heldFrom tX9_heldFrom_0 = true := by decide +kernel
theorem dX9_heldFrom_0 : decode cX9_heldFrom 0 = .ok (.bipush (-5), 2) := dAt tX9_heldFrom_0_ok 0 rfl
theorem dX9_heldFrom_2 : decode cX9_heldFrom 2 = .ok (.istore_n 2, 1) := dAt tX9_heldFrom_0_ok 1 rfl
theorem dX9_heldFrom_3 : decode cX9_heldFrom 3 = .ok (.iconst 0, 1) := dAt tX9_heldFrom_0_ok 2 rfl
theorem dX9_heldFrom_4 : decode cX9_heldFrom 4 = .ok (.istore_n 3, 1) := dAt tX9_heldFrom_0_ok 3 rfl
theorem dX9_heldFrom_5 : decode cX9_heldFrom 5 = .ok (.iload_n 3, 1) := dAt tX9_heldFrom_0_ok 4 rfl
theorem dX9_heldFrom_6 : decode cX9_heldFrom 6 = .ok (.aload_n 0, 1) := dAt tX9_heldFrom_0_ok 5 rfl
theorem dX9_heldFrom_7 : decode cX9_heldFrom 7 = .ok (.getfield 71, 3) := dAt tX9_heldFrom_0_ok 6 rfl
theorem dX9_heldFrom_10 : decode cX9_heldFrom 10 = .ok (.if_icmp .ge 49, 3) := dAt tX9_heldFrom_0_ok 7 rfl
theorem dX9_heldFrom_13 : decode cX9_heldFrom 13 = .ok (.aload_n 0, 1) := dAt tX9_heldFrom_0_ok 8 rfl
theorem dX9_heldFrom_14 : decode cX9_heldFrom 14 = .ok (.iload_n 3, 1) := dAt tX9_heldFrom_0_ok 9 rfl
theorem dX9_heldFrom_15 : decode cX9_heldFrom 15 = .ok (.invokevirtual 157, 3) := dAt tX9_heldFrom_0_ok 10 rfl
theorem dX9_heldFrom_18 : decode cX9_heldFrom 18 = .ok (.ifCond .eq 35, 3) := dAt tX9_heldFrom_0_ok 11 rfl
theorem dX9_heldFrom_21 : decode cX9_heldFrom 21 = .ok (.aload_n 0, 1) := dAt tX9_heldFrom_0_ok 12 rfl
theorem dX9_heldFrom_22 : decode cX9_heldFrom 22 = .ok (.iload_n 3, 1) := dAt tX9_heldFrom_0_ok 13 rfl
theorem dX9_heldFrom_23 : decode cX9_heldFrom 23 = .ok (.invokevirtual 168, 3) := dAt tX9_heldFrom_0_ok 14 rfl
theorem dX9_heldFrom_26 : decode cX9_heldFrom 26 = .ok (.aload_n 1, 1) := dAt tX9_heldFrom_0_ok 15 rfl
theorem dX9_heldFrom_27 : decode cX9_heldFrom 27 = .ok (.invokestatic 172, 3) := dAt tX9_heldFrom_0_ok 16 rfl
theorem dX9_heldFrom_30 : decode cX9_heldFrom 30 = .ok (.ifCond .ne 23, 3) := dAt tX9_heldFrom_0_ok 17 rfl
theorem dX9_heldFrom_33 : decode cX9_heldFrom 33 = .ok (.iload_n 2, 1) := dAt tX9_heldFrom_0_ok 18 rfl
theorem dX9_heldFrom_34 : decode cX9_heldFrom 34 = .ok (.ifCond .lt 17, 3) := dAt tX9_heldFrom_0_ok 19 rfl
theorem dX9_heldFrom_37 : decode cX9_heldFrom 37 = .ok (.aload_n 0, 1) := dAt tX9_heldFrom_0_ok 20 rfl
theorem dX9_heldFrom_38 : decode cX9_heldFrom 38 = .ok (.iload_n 3, 1) := dAt tX9_heldFrom_0_ok 21 rfl
theorem dX9_heldFrom_39 : decode cX9_heldFrom 39 = .ok (.invokevirtual 168, 3) := dAt tX9_heldFrom_0_ok 22 rfl
theorem dX9_heldFrom_42 : decode cX9_heldFrom 42 = .ok (.aload_n 0, 1) := dAt tX9_heldFrom_0_ok 23 rfl
theorem dX9_heldFrom_43 : decode cX9_heldFrom 43 = .ok (.iload_n 2, 1) := dAt tX9_heldFrom_0_ok 24 rfl
theorem dX9_heldFrom_44 : decode cX9_heldFrom 44 = .ok (.invokevirtual 168, 3) := dAt tX9_heldFrom_0_ok 25 rfl
theorem dX9_heldFrom_47 : decode cX9_heldFrom 47 = .ok (.lcmp, 1) := dAt tX9_heldFrom_0_ok 26 rfl
theorem dX9_heldFrom_48 : decode cX9_heldFrom 48 = .ok (.ifCond .ge 5, 3) := dAt tX9_heldFrom_0_ok 27 rfl
theorem dX9_heldFrom_51 : decode cX9_heldFrom 51 = .ok (.iload_n 3, 1) := dAt tX9_heldFrom_0_ok 28 rfl
theorem dX9_heldFrom_52 : decode cX9_heldFrom 52 = .ok (.istore_n 2, 1) := dAt tX9_heldFrom_0_ok 29 rfl
theorem dX9_heldFrom_53 : decode cX9_heldFrom 53 = .ok (.iinc 3 1, 3) := dAt tX9_heldFrom_0_ok 30 rfl
theorem dX9_heldFrom_56 : decode cX9_heldFrom 56 = .ok (.goto (-51), 3) := dAt tX9_heldFrom_0_ok 31 rfl
theorem dX9_heldFrom_59 : decode cX9_heldFrom 59 = .ok (.iload_n 2, 1) := dAt tX9_heldFrom_0_ok 32 rfl
theorem dX9_heldFrom_60 : decode cX9_heldFrom 60 = .ok (.ireturn, 1) := dAt tX9_heldFrom_0_ok 33 rfl
def tX9_isLess_0 : List (Nat × Instr × Nat) := [(0, .iconst 0, 1), (1, .istore_n 3, 1), (2, .iload_n 3, 1), (3, .bipush 7, 2), (5, .if_icmp .gt 42, 3), (8, .lload_n 0, 1), (9, .iload_n 3, 1), (10, .invokestatic 176, 3), (13, .istore 4, 2), (15, .iload 4, 2), (17, .aload_n 2, 1), (18, .iload_n 3, 1), (19, .invokevirtual 147, 3), (22, .if_icmp .eq 19, 3), (25, .iload 4, 2), (27, .aload_n 2, 1), (28, .iload_n 3, 1), (29, .invokevirtual 147, 3), (32, .if_icmp .ge 7, 3), (35, .iconst 1, 1), (36, .goto 4, 3), (39, .iconst 0, 1), (40, .ireturn, 1), (41, .iinc 3 1, 3), (44, .goto (-42), 3), (47, .iconst 0, 1), (48, .ireturn, 1)]
theorem tX9_isLess_0_ok : dAll cX9_isLess tX9_isLess_0 = true := by decide +kernel
theorem dX9_isLess_0 : decode cX9_isLess 0 = .ok (.iconst 0, 1) := dAt tX9_isLess_0_ok 0 rfl
theorem dX9_isLess_1 : decode cX9_isLess 1 = .ok (.istore_n 3, 1) := dAt tX9_isLess_0_ok 1 rfl
theorem dX9_isLess_2 : decode cX9_isLess 2 = .ok (.iload_n 3, 1) := dAt tX9_isLess_0_ok 2 rfl
theorem dX9_isLess_3 : decode cX9_isLess 3 = .ok (.bipush 7, 2) := dAt tX9_isLess_0_ok 3 rfl
theorem dX9_isLess_5 : decode cX9_isLess 5 = .ok (.if_icmp .gt 42, 3) := dAt tX9_isLess_0_ok 4 rfl
theorem dX9_isLess_8 : decode cX9_isLess 8 = .ok (.lload_n 0, 1) := dAt tX9_isLess_0_ok 5 rfl
theorem dX9_isLess_9 : decode cX9_isLess 9 = .ok (.iload_n 3, 1) := dAt tX9_isLess_0_ok 6 rfl
theorem dX9_isLess_10 : decode cX9_isLess 10 = .ok (.invokestatic 176, 3) := dAt tX9_isLess_0_ok 7 rfl
theorem dX9_isLess_13 : decode cX9_isLess 13 = .ok (.istore 4, 2) := dAt tX9_isLess_0_ok 8 rfl
theorem dX9_isLess_15 : decode cX9_isLess 15 = .ok (.iload 4, 2) := dAt tX9_isLess_0_ok 9 rfl
theorem dX9_isLess_17 : decode cX9_isLess 17 = .ok (.aload_n 2, 1) := dAt tX9_isLess_0_ok 10 rfl
theorem dX9_isLess_18 : decode cX9_isLess 18 = .ok (.iload_n 3, 1) := dAt tX9_isLess_0_ok 11 rfl
theorem dX9_isLess_19 : decode cX9_isLess 19 = .ok (.invokevirtual 147, 3) := dAt tX9_isLess_0_ok 12 rfl
theorem dX9_isLess_22 : decode cX9_isLess 22 = .ok (.if_icmp .eq 19, 3) := dAt tX9_isLess_0_ok 13 rfl
theorem dX9_isLess_25 : decode cX9_isLess 25 = .ok (.iload 4, 2) := dAt tX9_isLess_0_ok 14 rfl
theorem dX9_isLess_27 : decode cX9_isLess 27 = .ok (.aload_n 2, 1) := dAt tX9_isLess_0_ok 15 rfl
theorem dX9_isLess_28 : decode cX9_isLess 28 = .ok (.iload_n 3, 1) := dAt tX9_isLess_0_ok 16 rfl
theorem dX9_isLess_29 : decode cX9_isLess 29 = .ok (.invokevirtual 147, 3) := dAt tX9_isLess_0_ok 17 rfl
theorem dX9_isLess_32 : decode cX9_isLess 32 = .ok (.if_icmp .ge 7, 3) := dAt tX9_isLess_0_ok 18 rfl
theorem dX9_isLess_35 : decode cX9_isLess 35 = .ok (.iconst 1, 1) := dAt tX9_isLess_0_ok 19 rfl
theorem dX9_isLess_36 : decode cX9_isLess 36 = .ok (.goto 4, 3) := dAt tX9_isLess_0_ok 20 rfl
theorem dX9_isLess_39 : decode cX9_isLess 39 = .ok (.iconst 0, 1) := dAt tX9_isLess_0_ok 21 rfl
theorem dX9_isLess_40 : decode cX9_isLess 40 = .ok (.ireturn, 1) := dAt tX9_isLess_0_ok 22 rfl
theorem dX9_isLess_41 : decode cX9_isLess 41 = .ok (.iinc 3 1, 3) := dAt tX9_isLess_0_ok 23 rfl
theorem dX9_isLess_44 : decode cX9_isLess 44 = .ok (.goto (-42), 3) := dAt tX9_isLess_0_ok 24 rfl
theorem dX9_isLess_47 : decode cX9_isLess 47 = .ok (.iconst 0, 1) := dAt tX9_isLess_0_ok 25 rfl
theorem dX9_isLess_48 : decode cX9_isLess 48 = .ok (.ireturn, 1) := dAt tX9_isLess_0_ok 26 rfl
def tX9_heldAtPlace_0 : List (Nat × Instr × Nat) := [(0, .iconst 0, 1), (1, .istore_n 2, 1), (2, .iload_n 2, 1), (3, .aload_n 0, 1), (4, .getfield 71, 3), (7, .if_icmp .ge 32, 3), (10, .aload_n 0, 1), (11, .iload_n 2, 1), (12, .invokevirtual 157, 3), (15, .ifCond .eq 18, 3), (18, .aload_n 0, 1), (19, .aload_n 0, 1), (20, .iload_n 2, 1), (21, .invokevirtual 168, 3), (24, .invokevirtual 180, 3), (27, .iload_n 1, 1), (28, .if_icmp .ne 5, 3), (31, .iload_n 2, 1), (32, .ireturn, 1), (33, .iinc 2 1, 3), (36, .goto (-34), 3), (39, .iconst (-1), 1), (40, .ireturn, 1)]
theorem tX9_heldAtPlace_0_ok : dAll cX9_heldAtPlace tX9_heldAtPlace_0 = true := by decide +kernel
theorem dX9_heldAtPlace_0 : decode cX9_heldAtPlace 0 = .ok (.iconst 0, 1) := dAt tX9_heldAtPlace_0_ok 0 rfl
theorem dX9_heldAtPlace_1 : decode cX9_heldAtPlace 1 = .ok (.istore_n 2, 1) := dAt tX9_heldAtPlace_0_ok 1 rfl
theorem dX9_heldAtPlace_2 : decode cX9_heldAtPlace 2 = .ok (.iload_n 2, 1) := dAt tX9_heldAtPlace_0_ok 2 rfl
theorem dX9_heldAtPlace_3 : decode cX9_heldAtPlace 3 = .ok (.aload_n 0, 1) := dAt tX9_heldAtPlace_0_ok 3 rfl
theorem dX9_heldAtPlace_4 : decode cX9_heldAtPlace 4 = .ok (.getfield 71, 3) := dAt tX9_heldAtPlace_0_ok 4 rfl
theorem dX9_heldAtPlace_7 : decode cX9_heldAtPlace 7 = .ok (.if_icmp .ge 32, 3) := dAt tX9_heldAtPlace_0_ok 5 rfl
theorem dX9_heldAtPlace_10 : decode cX9_heldAtPlace 10 = .ok (.aload_n 0, 1) := dAt tX9_heldAtPlace_0_ok 6 rfl
theorem dX9_heldAtPlace_11 : decode cX9_heldAtPlace 11 = .ok (.iload_n 2, 1) := dAt tX9_heldAtPlace_0_ok 7 rfl
theorem dX9_heldAtPlace_12 : decode cX9_heldAtPlace 12 = .ok (.invokevirtual 157, 3) := dAt tX9_heldAtPlace_0_ok 8 rfl
theorem dX9_heldAtPlace_15 : decode cX9_heldAtPlace 15 = .ok (.ifCond .eq 18, 3) := dAt tX9_heldAtPlace_0_ok 9 rfl
theorem dX9_heldAtPlace_18 : decode cX9_heldAtPlace 18 = .ok (.aload_n 0, 1) := dAt tX9_heldAtPlace_0_ok 10 rfl
theorem dX9_heldAtPlace_19 : decode cX9_heldAtPlace 19 = .ok (.aload_n 0, 1) := dAt tX9_heldAtPlace_0_ok 11 rfl
theorem dX9_heldAtPlace_20 : decode cX9_heldAtPlace 20 = .ok (.iload_n 2, 1) := dAt tX9_heldAtPlace_0_ok 12 rfl
theorem dX9_heldAtPlace_21 : decode cX9_heldAtPlace 21 = .ok (.invokevirtual 168, 3) := dAt tX9_heldAtPlace_0_ok 13 rfl
theorem dX9_heldAtPlace_24 : decode cX9_heldAtPlace 24 = .ok (.invokevirtual 180, 3) := dAt tX9_heldAtPlace_0_ok 14 rfl
theorem dX9_heldAtPlace_27 : decode cX9_heldAtPlace 27 = .ok (.iload_n 1, 1) := dAt tX9_heldAtPlace_0_ok 15 rfl
theorem dX9_heldAtPlace_28 : decode cX9_heldAtPlace 28 = .ok (.if_icmp .ne 5, 3) := dAt tX9_heldAtPlace_0_ok 16 rfl
theorem dX9_heldAtPlace_31 : decode cX9_heldAtPlace 31 = .ok (.iload_n 2, 1) := dAt tX9_heldAtPlace_0_ok 17 rfl
theorem dX9_heldAtPlace_32 : decode cX9_heldAtPlace 32 = .ok (.ireturn, 1) := dAt tX9_heldAtPlace_0_ok 18 rfl
theorem dX9_heldAtPlace_33 : decode cX9_heldAtPlace 33 = .ok (.iinc 2 1, 3) := dAt tX9_heldAtPlace_0_ok 19 rfl
theorem dX9_heldAtPlace_36 : decode cX9_heldAtPlace 36 = .ok (.goto (-34), 3) := dAt tX9_heldAtPlace_0_ok 20 rfl
theorem dX9_heldAtPlace_39 : decode cX9_heldAtPlace 39 = .ok (.iconst (-1), 1) := dAt tX9_heldAtPlace_0_ok 21 rfl
theorem dX9_heldAtPlace_40 : decode cX9_heldAtPlace 40 = .ok (.ireturn, 1) := dAt tX9_heldAtPlace_0_ok 22 rfl
def tX9_heldAhead_0 : List (Nat × Instr × Nat) := [(0, .iconst 0, 1), (1, .istore_n 3, 1), (2, .iconst 0, 1), (3, .istore 4, 2), (5, .iload 4, 2), (7, .aload_n 0, 1), (8, .getfield 71, 3), (11, .if_icmp .ge 32, 3), (14, .aload_n 0, 1), (15, .iload 4, 2), (17, .invokevirtual 157, 3), (20, .ifCond .eq 17, 3), (23, .aload_n 0, 1), (24, .iload 4, 2), (26, .invokevirtual 168, 3), (29, .lload_n 1, 1), (30, .lcmp, 1), (31, .ifCond .ge 6, 3), (34, .iinc 3 1, 3), (37, .iinc 4 1, 3), (40, .goto (-35), 3), (43, .iload_n 3, 1), (44, .ireturn, 1)]
theorem tX9_heldAhead_0_ok : dAll cX9_heldAhead tX9_heldAhead_0 = true := by decide +kernel
theorem dX9_heldAhead_0 : decode cX9_heldAhead 0 = .ok (.iconst 0, 1) := dAt tX9_heldAhead_0_ok 0 rfl
theorem dX9_heldAhead_1 : decode cX9_heldAhead 1 = .ok (.istore_n 3, 1) := dAt tX9_heldAhead_0_ok 1 rfl
theorem dX9_heldAhead_2 : decode cX9_heldAhead 2 = .ok (.iconst 0, 1) := dAt tX9_heldAhead_0_ok 2 rfl
theorem dX9_heldAhead_3 : decode cX9_heldAhead 3 = .ok (.istore 4, 2) := dAt tX9_heldAhead_0_ok 3 rfl
theorem dX9_heldAhead_5 : decode cX9_heldAhead 5 = .ok (.iload 4, 2) := dAt tX9_heldAhead_0_ok 4 rfl
theorem dX9_heldAhead_7 : decode cX9_heldAhead 7 = .ok (.aload_n 0, 1) := dAt tX9_heldAhead_0_ok 5 rfl
theorem dX9_heldAhead_8 : decode cX9_heldAhead 8 = .ok (.getfield 71, 3) := dAt tX9_heldAhead_0_ok 6 rfl
theorem dX9_heldAhead_11 : decode cX9_heldAhead 11 = .ok (.if_icmp .ge 32, 3) := dAt tX9_heldAhead_0_ok 7 rfl
theorem dX9_heldAhead_14 : decode cX9_heldAhead 14 = .ok (.aload_n 0, 1) := dAt tX9_heldAhead_0_ok 8 rfl
theorem dX9_heldAhead_15 : decode cX9_heldAhead 15 = .ok (.iload 4, 2) := dAt tX9_heldAhead_0_ok 9 rfl
theorem dX9_heldAhead_17 : decode cX9_heldAhead 17 = .ok (.invokevirtual 157, 3) := dAt tX9_heldAhead_0_ok 10 rfl
theorem dX9_heldAhead_20 : decode cX9_heldAhead 20 = .ok (.ifCond .eq 17, 3) := dAt tX9_heldAhead_0_ok 11 rfl
theorem dX9_heldAhead_23 : decode cX9_heldAhead 23 = .ok (.aload_n 0, 1) := dAt tX9_heldAhead_0_ok 12 rfl
theorem dX9_heldAhead_24 : decode cX9_heldAhead 24 = .ok (.iload 4, 2) := dAt tX9_heldAhead_0_ok 13 rfl
theorem dX9_heldAhead_26 : decode cX9_heldAhead 26 = .ok (.invokevirtual 168, 3) := dAt tX9_heldAhead_0_ok 14 rfl
theorem dX9_heldAhead_29 : decode cX9_heldAhead 29 = .ok (.lload_n 1, 1) := dAt tX9_heldAhead_0_ok 15 rfl
theorem dX9_heldAhead_30 : decode cX9_heldAhead 30 = .ok (.lcmp, 1) := dAt tX9_heldAhead_0_ok 16 rfl
theorem dX9_heldAhead_31 : decode cX9_heldAhead 31 = .ok (.ifCond .ge 6, 3) := dAt tX9_heldAhead_0_ok 17 rfl
theorem dX9_heldAhead_34 : decode cX9_heldAhead 34 = .ok (.iinc 3 1, 3) := dAt tX9_heldAhead_0_ok 18 rfl
theorem dX9_heldAhead_37 : decode cX9_heldAhead 37 = .ok (.iinc 4 1, 3) := dAt tX9_heldAhead_0_ok 19 rfl
theorem dX9_heldAhead_40 : decode cX9_heldAhead 40 = .ok (.goto (-35), 3) := dAt tX9_heldAhead_0_ok 20 rfl
theorem dX9_heldAhead_43 : decode cX9_heldAhead 43 = .ok (.iload_n 3, 1) := dAt tX9_heldAhead_0_ok 21 rfl
theorem dX9_heldAhead_44 : decode cX9_heldAhead 44 = .ok (.ireturn, 1) := dAt tX9_heldAhead_0_ok 22 rfl
def tX9_readyTasks_0 : List (Nat × Instr × Nat) := [(0, .iconst 0, 1), (1, .istore_n 1, 1), (2, .iconst 0, 1), (3, .istore_n 2, 1), (4, .iload_n 2, 1), (5, .aload_n 0, 1), (6, .getfield 81, 3), (9, .if_icmp .ge 20, 3), (12, .aload_n 0, 1), (13, .iload_n 2, 1), (14, .invokevirtual 184, 3), (17, .ifCond .eq 6, 3), (20, .iinc 1 1, 3), (23, .iinc 2 1, 3), (26, .goto (-22), 3), (29, .iload_n 1, 1), (30, .ireturn, 1)]
theorem tX9_readyTasks_0_ok : dAll cX9_readyTasks tX9_readyTasks_0 = true := by decide +kernel
theorem dX9_readyTasks_0 : decode cX9_readyTasks 0 = .ok (.iconst 0, 1) := dAt tX9_readyTasks_0_ok 0 rfl
theorem dX9_readyTasks_1 : decode cX9_readyTasks 1 = .ok (.istore_n 1, 1) := dAt tX9_readyTasks_0_ok 1 rfl
theorem dX9_readyTasks_2 : decode cX9_readyTasks 2 = .ok (.iconst 0, 1) := dAt tX9_readyTasks_0_ok 2 rfl
theorem dX9_readyTasks_3 : decode cX9_readyTasks 3 = .ok (.istore_n 2, 1) := dAt tX9_readyTasks_0_ok 3 rfl
theorem dX9_readyTasks_4 : decode cX9_readyTasks 4 = .ok (.iload_n 2, 1) := dAt tX9_readyTasks_0_ok 4 rfl
theorem dX9_readyTasks_5 : decode cX9_readyTasks 5 = .ok (.aload_n 0, 1) := dAt tX9_readyTasks_0_ok 5 rfl
theorem dX9_readyTasks_6 : decode cX9_readyTasks 6 = .ok (.getfield 81, 3) := dAt tX9_readyTasks_0_ok 6 rfl
theorem dX9_readyTasks_9 : decode cX9_readyTasks 9 = .ok (.if_icmp .ge 20, 3) := dAt tX9_readyTasks_0_ok 7 rfl
theorem dX9_readyTasks_12 : decode cX9_readyTasks 12 = .ok (.aload_n 0, 1) := dAt tX9_readyTasks_0_ok 8 rfl
theorem dX9_readyTasks_13 : decode cX9_readyTasks 13 = .ok (.iload_n 2, 1) := dAt tX9_readyTasks_0_ok 9 rfl
theorem dX9_readyTasks_14 : decode cX9_readyTasks 14 = .ok (.invokevirtual 184, 3) := dAt tX9_readyTasks_0_ok 10 rfl
theorem dX9_readyTasks_17 : decode cX9_readyTasks 17 = .ok (.ifCond .eq 6, 3) := dAt tX9_readyTasks_0_ok 11 rfl
theorem dX9_readyTasks_20 : decode cX9_readyTasks 20 = .ok (.iinc 1 1, 3) := dAt tX9_readyTasks_0_ok 12 rfl
theorem dX9_readyTasks_23 : decode cX9_readyTasks 23 = .ok (.iinc 2 1, 3) := dAt tX9_readyTasks_0_ok 13 rfl
theorem dX9_readyTasks_26 : decode cX9_readyTasks 26 = .ok (.goto (-22), 3) := dAt tX9_readyTasks_0_ok 14 rfl
theorem dX9_readyTasks_29 : decode cX9_readyTasks 29 = .ok (.iload_n 1, 1) := dAt tX9_readyTasks_0_ok 15 rfl
theorem dX9_readyTasks_30 : decode cX9_readyTasks 30 = .ok (.ireturn, 1) := dAt tX9_readyTasks_0_ok 16 rfl
def tX9_readyAtPlace_0 : List (Nat × Instr × Nat) := [(0, .iconst 0, 1), (1, .istore_n 2, 1), (2, .iload_n 2, 1), (3, .aload_n 0, 1), (4, .getfield 81, 3), (7, .if_icmp .ge 28, 3), (10, .aload_n 0, 1), (11, .iload_n 2, 1), (12, .invokevirtual 184, 3), (15, .ifCond .eq 14, 3), (18, .aload_n 0, 1), (19, .iload_n 2, 1), (20, .invokevirtual 187, 3), (23, .iload_n 1, 1), (24, .if_icmp .ne 5, 3), (27, .iload_n 2, 1), (28, .ireturn, 1), (29, .iinc 2 1, 3), (32, .goto (-30), 3), (35, .bipush (-5), 2), (37, .ireturn, 1)]
theorem tX9_readyAtPlace_0_ok : dAll cX9_readyAtPlace tX9_readyAtPlace_0 = true := by decide +kernel
theorem dX9_readyAtPlace_0 : decode cX9_readyAtPlace 0 = .ok (.iconst 0, 1) := dAt tX9_readyAtPlace_0_ok 0 rfl
theorem dX9_readyAtPlace_1 : decode cX9_readyAtPlace 1 = .ok (.istore_n 2, 1) := dAt tX9_readyAtPlace_0_ok 1 rfl
theorem dX9_readyAtPlace_2 : decode cX9_readyAtPlace 2 = .ok (.iload_n 2, 1) := dAt tX9_readyAtPlace_0_ok 2 rfl
theorem dX9_readyAtPlace_3 : decode cX9_readyAtPlace 3 = .ok (.aload_n 0, 1) := dAt tX9_readyAtPlace_0_ok 3 rfl
theorem dX9_readyAtPlace_4 : decode cX9_readyAtPlace 4 = .ok (.getfield 81, 3) := dAt tX9_readyAtPlace_0_ok 4 rfl
theorem dX9_readyAtPlace_7 : decode cX9_readyAtPlace 7 = .ok (.if_icmp .ge 28, 3) := dAt tX9_readyAtPlace_0_ok 5 rfl
theorem dX9_readyAtPlace_10 : decode cX9_readyAtPlace 10 = .ok (.aload_n 0, 1) := dAt tX9_readyAtPlace_0_ok 6 rfl
theorem dX9_readyAtPlace_11 : decode cX9_readyAtPlace 11 = .ok (.iload_n 2, 1) := dAt tX9_readyAtPlace_0_ok 7 rfl
theorem dX9_readyAtPlace_12 : decode cX9_readyAtPlace 12 = .ok (.invokevirtual 184, 3) := dAt tX9_readyAtPlace_0_ok 8 rfl
theorem dX9_readyAtPlace_15 : decode cX9_readyAtPlace 15 = .ok (.ifCond .eq 14, 3) := dAt tX9_readyAtPlace_0_ok 9 rfl
theorem dX9_readyAtPlace_18 : decode cX9_readyAtPlace 18 = .ok (.aload_n 0, 1) := dAt tX9_readyAtPlace_0_ok 10 rfl
theorem dX9_readyAtPlace_19 : decode cX9_readyAtPlace 19 = .ok (.iload_n 2, 1) := dAt tX9_readyAtPlace_0_ok 11 rfl
theorem dX9_readyAtPlace_20 : decode cX9_readyAtPlace 20 = .ok (.invokevirtual 187, 3) := dAt tX9_readyAtPlace_0_ok 12 rfl
theorem dX9_readyAtPlace_23 : decode cX9_readyAtPlace 23 = .ok (.iload_n 1, 1) := dAt tX9_readyAtPlace_0_ok 13 rfl
theorem dX9_readyAtPlace_24 : decode cX9_readyAtPlace 24 = .ok (.if_icmp .ne 5, 3) := dAt tX9_readyAtPlace_0_ok 14 rfl
theorem dX9_readyAtPlace_27 : decode cX9_readyAtPlace 27 = .ok (.iload_n 2, 1) := dAt tX9_readyAtPlace_0_ok 15 rfl
theorem dX9_readyAtPlace_28 : decode cX9_readyAtPlace 28 = .ok (.ireturn, 1) := dAt tX9_readyAtPlace_0_ok 16 rfl
theorem dX9_readyAtPlace_29 : decode cX9_readyAtPlace 29 = .ok (.iinc 2 1, 3) := dAt tX9_readyAtPlace_0_ok 17 rfl
theorem dX9_readyAtPlace_32 : decode cX9_readyAtPlace 32 = .ok (.goto (-30), 3) := dAt tX9_readyAtPlace_0_ok 18 rfl
theorem dX9_readyAtPlace_35 : decode cX9_readyAtPlace 35 = .ok (.bipush (-5), 2) := dAt tX9_readyAtPlace_0_ok 19 rfl
theorem dX9_readyAtPlace_37 : decode cX9_readyAtPlace 37 = .ok (.ireturn, 1) := dAt tX9_readyAtPlace_0_ok 20 rfl
def tX9_readyAhead_0 : List (Nat × Instr × Nat) := [(0, .aload_n 0, 1), (1, .iload_n 1, 1), (2, .invokevirtual 128, 3), (5, .astore_n 2, 1), (6, .iconst 0, 1), (7, .istore_n 3, 1), (8, .iconst 0, 1), (9, .istore 4, 2), (11, .iload 4, 2), (13, .aload_n 0, 1), (14, .getfield 81, 3), (17, .if_icmp .ge 61, 3), (20, .aload_n 0, 1), (21, .iload 4, 2), (23, .invokevirtual 128, 3), (26, .astore 5, 2), (28, .aload_n 2, 1), (29, .ifnull 43, 3), (32, .aload 5, 2), (34, .ifnull 38, 3), (37, .aload 5, 2), (39, .getfield 143, 3), (42, .ifCond .ne 30, 3), (45, .aload 5, 2), (47, .aload_n 2, 1), (48, .invokevirtual 190, 3), (51, .ifCond .ne 18, 3), (54, .iload 4, 2), (56, .iload_n 1, 1), (57, .if_icmp .ge 15, 3), (60, .aload_n 2, 1), (61, .aload 5, 2), (63, .invokevirtual 190, 3), (66, .ifCond .ne 6, 3), (69, .iinc 3 1, 3), (72, .iinc 4 1, 3), (75, .goto (-64), 3), (78, .iload_n 3, 1), (79, .ireturn, 1)]
theorem tX9_readyAhead_0_ok : dAll cX9_readyAhead tX9_readyAhead_0 = true := by decide +kernel
theorem dX9_readyAhead_0 : decode cX9_readyAhead 0 = .ok (.aload_n 0, 1) := dAt tX9_readyAhead_0_ok 0 rfl
theorem dX9_readyAhead_1 : decode cX9_readyAhead 1 = .ok (.iload_n 1, 1) := dAt tX9_readyAhead_0_ok 1 rfl
theorem dX9_readyAhead_2 : decode cX9_readyAhead 2 = .ok (.invokevirtual 128, 3) := dAt tX9_readyAhead_0_ok 2 rfl
theorem dX9_readyAhead_5 : decode cX9_readyAhead 5 = .ok (.astore_n 2, 1) := dAt tX9_readyAhead_0_ok 3 rfl
theorem dX9_readyAhead_6 : decode cX9_readyAhead 6 = .ok (.iconst 0, 1) := dAt tX9_readyAhead_0_ok 4 rfl
theorem dX9_readyAhead_7 : decode cX9_readyAhead 7 = .ok (.istore_n 3, 1) := dAt tX9_readyAhead_0_ok 5 rfl
theorem dX9_readyAhead_8 : decode cX9_readyAhead 8 = .ok (.iconst 0, 1) := dAt tX9_readyAhead_0_ok 6 rfl
theorem dX9_readyAhead_9 : decode cX9_readyAhead 9 = .ok (.istore 4, 2) := dAt tX9_readyAhead_0_ok 7 rfl
theorem dX9_readyAhead_11 : decode cX9_readyAhead 11 = .ok (.iload 4, 2) := dAt tX9_readyAhead_0_ok 8 rfl
theorem dX9_readyAhead_13 : decode cX9_readyAhead 13 = .ok (.aload_n 0, 1) := dAt tX9_readyAhead_0_ok 9 rfl
theorem dX9_readyAhead_14 : decode cX9_readyAhead 14 = .ok (.getfield 81, 3) := dAt tX9_readyAhead_0_ok 10 rfl
theorem dX9_readyAhead_17 : decode cX9_readyAhead 17 = .ok (.if_icmp .ge 61, 3) := dAt tX9_readyAhead_0_ok 11 rfl
theorem dX9_readyAhead_20 : decode cX9_readyAhead 20 = .ok (.aload_n 0, 1) := dAt tX9_readyAhead_0_ok 12 rfl
theorem dX9_readyAhead_21 : decode cX9_readyAhead 21 = .ok (.iload 4, 2) := dAt tX9_readyAhead_0_ok 13 rfl
theorem dX9_readyAhead_23 : decode cX9_readyAhead 23 = .ok (.invokevirtual 128, 3) := dAt tX9_readyAhead_0_ok 14 rfl
theorem dX9_readyAhead_26 : decode cX9_readyAhead 26 = .ok (.astore 5, 2) := dAt tX9_readyAhead_0_ok 15 rfl
theorem dX9_readyAhead_28 : decode cX9_readyAhead 28 = .ok (.aload_n 2, 1) := dAt tX9_readyAhead_0_ok 16 rfl
theorem dX9_readyAhead_29 : decode cX9_readyAhead 29 = .ok (.ifnull 43, 3) := dAt tX9_readyAhead_0_ok 17 rfl
theorem dX9_readyAhead_32 : decode cX9_readyAhead 32 = .ok (.aload 5, 2) := dAt tX9_readyAhead_0_ok 18 rfl
theorem dX9_readyAhead_34 : decode cX9_readyAhead 34 = .ok (.ifnull 38, 3) := dAt tX9_readyAhead_0_ok 19 rfl
theorem dX9_readyAhead_37 : decode cX9_readyAhead 37 = .ok (.aload 5, 2) := dAt tX9_readyAhead_0_ok 20 rfl
theorem dX9_readyAhead_39 : decode cX9_readyAhead 39 = .ok (.getfield 143, 3) := dAt tX9_readyAhead_0_ok 21 rfl
theorem dX9_readyAhead_42 : decode cX9_readyAhead 42 = .ok (.ifCond .ne 30, 3) := dAt tX9_readyAhead_0_ok 22 rfl
theorem dX9_readyAhead_45 : decode cX9_readyAhead 45 = .ok (.aload 5, 2) := dAt tX9_readyAhead_0_ok 23 rfl
theorem dX9_readyAhead_47 : decode cX9_readyAhead 47 = .ok (.aload_n 2, 1) := dAt tX9_readyAhead_0_ok 24 rfl
theorem dX9_readyAhead_48 : decode cX9_readyAhead 48 = .ok (.invokevirtual 190, 3) := dAt tX9_readyAhead_0_ok 25 rfl
theorem dX9_readyAhead_51 : decode cX9_readyAhead 51 = .ok (.ifCond .ne 18, 3) := dAt tX9_readyAhead_0_ok 26 rfl
theorem dX9_readyAhead_54 : decode cX9_readyAhead 54 = .ok (.iload 4, 2) := dAt tX9_readyAhead_0_ok 27 rfl
theorem dX9_readyAhead_56 : decode cX9_readyAhead 56 = .ok (.iload_n 1, 1) := dAt tX9_readyAhead_0_ok 28 rfl
theorem dX9_readyAhead_57 : decode cX9_readyAhead 57 = .ok (.if_icmp .ge 15, 3) := dAt tX9_readyAhead_0_ok 29 rfl
theorem dX9_readyAhead_60 : decode cX9_readyAhead 60 = .ok (.aload_n 2, 1) := dAt tX9_readyAhead_0_ok 30 rfl
theorem dX9_readyAhead_61 : decode cX9_readyAhead 61 = .ok (.aload 5, 2) := dAt tX9_readyAhead_0_ok 31 rfl
theorem dX9_readyAhead_63 : decode cX9_readyAhead 63 = .ok (.invokevirtual 190, 3) := dAt tX9_readyAhead_0_ok 32 rfl
theorem dX9_readyAhead_66 : decode cX9_readyAhead 66 = .ok (.ifCond .ne 6, 3) := dAt tX9_readyAhead_0_ok 33 rfl
theorem dX9_readyAhead_69 : decode cX9_readyAhead 69 = .ok (.iinc 3 1, 3) := dAt tX9_readyAhead_0_ok 34 rfl
theorem dX9_readyAhead_72 : decode cX9_readyAhead 72 = .ok (.iinc 4 1, 3) := dAt tX9_readyAhead_0_ok 35 rfl
theorem dX9_readyAhead_75 : decode cX9_readyAhead 75 = .ok (.goto (-64), 3) := dAt tX9_readyAhead_0_ok 36 rfl
theorem dX9_readyAhead_78 : decode cX9_readyAhead 78 = .ok (.iload_n 3, 1) := dAt tX9_readyAhead_0_ok 37 rfl
theorem dX9_readyAhead_79 : decode cX9_readyAhead 79 = .ok (.ireturn, 1) := dAt tX9_readyAhead_0_ok 38 rfl
def tX9_scopesNotShutOf_0 : List (Nat × Instr × Nat) := [(0, .iconst 0, 1), (1, .istore_n 2, 1), (2, .iconst 0, 1), (3, .istore_n 3, 1), (4, .iload_n 3, 1), (5, .aload_n 0, 1), (6, .getfield 57, 3), (9, .if_icmp .ge 42, 3), (12, .aload_n 0, 1), (13, .iload_n 3, 1), (14, .invokevirtual 61, 3), (17, .astore 4, 2), (19, .aload 4, 2), (21, .ifnull 24, 3), (24, .aload 4, 2), (26, .getfield 68, 3), (29, .iload_n 1, 1), (30, .if_icmp .ne 15, 3), (33, .aload 4, 2), (35, .getfield 127, 3), (38, .iconst 1, 1), (39, .if_icmp .eq 6, 3), (42, .iinc 2 1, 3), (45, .iinc 3 1, 3), (48, .goto (-44), 3), (51, .iload_n 2, 1), (52, .ireturn, 1)]
theorem tX9_scopesNotShutOf_0_ok : dAll cX9_scopesNotShutOf tX9_scopesNotShutOf_0 = true := by decide +kernel
theorem dX9_scopesNotShutOf_0 : decode cX9_scopesNotShutOf 0 = .ok (.iconst 0, 1) := dAt tX9_scopesNotShutOf_0_ok 0 rfl
theorem dX9_scopesNotShutOf_1 : decode cX9_scopesNotShutOf 1 = .ok (.istore_n 2, 1) := dAt tX9_scopesNotShutOf_0_ok 1 rfl
theorem dX9_scopesNotShutOf_2 : decode cX9_scopesNotShutOf 2 = .ok (.iconst 0, 1) := dAt tX9_scopesNotShutOf_0_ok 2 rfl
theorem dX9_scopesNotShutOf_3 : decode cX9_scopesNotShutOf 3 = .ok (.istore_n 3, 1) := dAt tX9_scopesNotShutOf_0_ok 3 rfl
theorem dX9_scopesNotShutOf_4 : decode cX9_scopesNotShutOf 4 = .ok (.iload_n 3, 1) := dAt tX9_scopesNotShutOf_0_ok 4 rfl
theorem dX9_scopesNotShutOf_5 : decode cX9_scopesNotShutOf 5 = .ok (.aload_n 0, 1) := dAt tX9_scopesNotShutOf_0_ok 5 rfl
theorem dX9_scopesNotShutOf_6 : decode cX9_scopesNotShutOf 6 = .ok (.getfield 57, 3) := dAt tX9_scopesNotShutOf_0_ok 6 rfl
theorem dX9_scopesNotShutOf_9 : decode cX9_scopesNotShutOf 9 = .ok (.if_icmp .ge 42, 3) := dAt tX9_scopesNotShutOf_0_ok 7 rfl
theorem dX9_scopesNotShutOf_12 : decode cX9_scopesNotShutOf 12 = .ok (.aload_n 0, 1) := dAt tX9_scopesNotShutOf_0_ok 8 rfl
theorem dX9_scopesNotShutOf_13 : decode cX9_scopesNotShutOf 13 = .ok (.iload_n 3, 1) := dAt tX9_scopesNotShutOf_0_ok 9 rfl
theorem dX9_scopesNotShutOf_14 : decode cX9_scopesNotShutOf 14 = .ok (.invokevirtual 61, 3) := dAt tX9_scopesNotShutOf_0_ok 10 rfl
theorem dX9_scopesNotShutOf_17 : decode cX9_scopesNotShutOf 17 = .ok (.astore 4, 2) := dAt tX9_scopesNotShutOf_0_ok 11 rfl
theorem dX9_scopesNotShutOf_19 : decode cX9_scopesNotShutOf 19 = .ok (.aload 4, 2) := dAt tX9_scopesNotShutOf_0_ok 12 rfl
theorem dX9_scopesNotShutOf_21 : decode cX9_scopesNotShutOf 21 = .ok (.ifnull 24, 3) := dAt tX9_scopesNotShutOf_0_ok 13 rfl
theorem dX9_scopesNotShutOf_24 : decode cX9_scopesNotShutOf 24 = .ok (.aload 4, 2) := dAt tX9_scopesNotShutOf_0_ok 14 rfl
theorem dX9_scopesNotShutOf_26 : decode cX9_scopesNotShutOf 26 = .ok (.getfield 68, 3) := dAt tX9_scopesNotShutOf_0_ok 15 rfl
theorem dX9_scopesNotShutOf_29 : decode cX9_scopesNotShutOf 29 = .ok (.iload_n 1, 1) := dAt tX9_scopesNotShutOf_0_ok 16 rfl
theorem dX9_scopesNotShutOf_30 : decode cX9_scopesNotShutOf 30 = .ok (.if_icmp .ne 15, 3) := dAt tX9_scopesNotShutOf_0_ok 17 rfl
theorem dX9_scopesNotShutOf_33 : decode cX9_scopesNotShutOf 33 = .ok (.aload 4, 2) := dAt tX9_scopesNotShutOf_0_ok 18 rfl
theorem dX9_scopesNotShutOf_35 : decode cX9_scopesNotShutOf 35 = .ok (.getfield 127, 3) := dAt tX9_scopesNotShutOf_0_ok 19 rfl
theorem dX9_scopesNotShutOf_38 : decode cX9_scopesNotShutOf 38 = .ok (.iconst 1, 1) := dAt tX9_scopesNotShutOf_0_ok 20 rfl
theorem dX9_scopesNotShutOf_39 : decode cX9_scopesNotShutOf 39 = .ok (.if_icmp .eq 6, 3) := dAt tX9_scopesNotShutOf_0_ok 21 rfl
theorem dX9_scopesNotShutOf_42 : decode cX9_scopesNotShutOf 42 = .ok (.iinc 2 1, 3) := dAt tX9_scopesNotShutOf_0_ok 22 rfl
theorem dX9_scopesNotShutOf_45 : decode cX9_scopesNotShutOf 45 = .ok (.iinc 3 1, 3) := dAt tX9_scopesNotShutOf_0_ok 23 rfl
theorem dX9_scopesNotShutOf_48 : decode cX9_scopesNotShutOf 48 = .ok (.goto (-44), 3) := dAt tX9_scopesNotShutOf_0_ok 24 rfl
theorem dX9_scopesNotShutOf_51 : decode cX9_scopesNotShutOf 51 = .ok (.iload_n 2, 1) := dAt tX9_scopesNotShutOf_0_ok 25 rfl
theorem dX9_scopesNotShutOf_52 : decode cX9_scopesNotShutOf 52 = .ok (.ireturn, 1) := dAt tX9_scopesNotShutOf_0_ok 26 rfl
def tX9_ownFault_0 : List (Nat × Instr × Nat) := [(0, .aload_n 0, 1), (1, .iload_n 1, 1), (2, .invokevirtual 128, 3), (5, .astore_n 2, 1), (6, .aload_n 2, 1), (7, .ifnonnull 7, 3), (10, .iconst 0, 1), (11, .goto 7, 3), (14, .aload_n 2, 1), (15, .getfield 194, 3), (18, .ireturn, 1)]
theorem tX9_ownFault_0_ok : dAll cX9_ownFault tX9_ownFault_0 = true := by decide +kernel
theorem dX9_ownFault_0 : decode cX9_ownFault 0 = .ok (.aload_n 0, 1) := dAt tX9_ownFault_0_ok 0 rfl
theorem dX9_ownFault_1 : decode cX9_ownFault 1 = .ok (.iload_n 1, 1) := dAt tX9_ownFault_0_ok 1 rfl
theorem dX9_ownFault_2 : decode cX9_ownFault 2 = .ok (.invokevirtual 128, 3) := dAt tX9_ownFault_0_ok 2 rfl
theorem dX9_ownFault_5 : decode cX9_ownFault 5 = .ok (.astore_n 2, 1) := dAt tX9_ownFault_0_ok 3 rfl
theorem dX9_ownFault_6 : decode cX9_ownFault 6 = .ok (.aload_n 2, 1) := dAt tX9_ownFault_0_ok 4 rfl
theorem dX9_ownFault_7 : decode cX9_ownFault 7 = .ok (.ifnonnull 7, 3) := dAt tX9_ownFault_0_ok 5 rfl
theorem dX9_ownFault_10 : decode cX9_ownFault 10 = .ok (.iconst 0, 1) := dAt tX9_ownFault_0_ok 6 rfl
theorem dX9_ownFault_11 : decode cX9_ownFault 11 = .ok (.goto 7, 3) := dAt tX9_ownFault_0_ok 7 rfl
theorem dX9_ownFault_14 : decode cX9_ownFault 14 = .ok (.aload_n 2, 1) := dAt tX9_ownFault_0_ok 8 rfl
theorem dX9_ownFault_15 : decode cX9_ownFault 15 = .ok (.getfield 194, 3) := dAt tX9_ownFault_0_ok 9 rfl
theorem dX9_ownFault_18 : decode cX9_ownFault 18 = .ok (.ireturn, 1) := dAt tX9_ownFault_0_ok 10 rfl
def tX9_faultCount_0 : List (Nat × Instr × Nat) := [(0, .aload_n 0, 1), (1, .getfield 47, 3), (4, .iload_n 1, 1), (5, .invokevirtual 197, 3), (8, .aload_n 0, 1), (9, .iload_n 1, 1), (10, .invokevirtual 200, 3), (13, .ifCond .ne 7, 3), (16, .iconst 0, 1), (17, .goto 4, 3), (20, .iconst 1, 1), (21, .iadd, 1), (22, .ireturn, 1)]
theorem tX9_faultCount_0_ok : dAll cX9_faultCount tX9_faultCount_0 = true := by decide +kernel
theorem dX9_faultCount_0 : decode cX9_faultCount 0 = .ok (.aload_n 0, 1) := dAt tX9_faultCount_0_ok 0 rfl
theorem dX9_faultCount_1 : decode cX9_faultCount 1 = .ok (.getfield 47, 3) := dAt tX9_faultCount_0_ok 1 rfl
theorem dX9_faultCount_4 : decode cX9_faultCount 4 = .ok (.iload_n 1, 1) := dAt tX9_faultCount_0_ok 2 rfl
theorem dX9_faultCount_5 : decode cX9_faultCount 5 = .ok (.invokevirtual 197, 3) := dAt tX9_faultCount_0_ok 3 rfl
theorem dX9_faultCount_8 : decode cX9_faultCount 8 = .ok (.aload_n 0, 1) := dAt tX9_faultCount_0_ok 4 rfl
theorem dX9_faultCount_9 : decode cX9_faultCount 9 = .ok (.iload_n 1, 1) := dAt tX9_faultCount_0_ok 5 rfl
theorem dX9_faultCount_10 : decode cX9_faultCount 10 = .ok (.invokevirtual 200, 3) := dAt tX9_faultCount_0_ok 6 rfl
theorem dX9_faultCount_13 : decode cX9_faultCount 13 = .ok (.ifCond .ne 7, 3) := dAt tX9_faultCount_0_ok 7 rfl
theorem dX9_faultCount_16 : decode cX9_faultCount 16 = .ok (.iconst 0, 1) := dAt tX9_faultCount_0_ok 8 rfl
theorem dX9_faultCount_17 : decode cX9_faultCount 17 = .ok (.goto 4, 3) := dAt tX9_faultCount_0_ok 9 rfl
theorem dX9_faultCount_20 : decode cX9_faultCount 20 = .ok (.iconst 1, 1) := dAt tX9_faultCount_0_ok 10 rfl
theorem dX9_faultCount_21 : decode cX9_faultCount 21 = .ok (.iadd, 1) := dAt tX9_faultCount_0_ok 11 rfl
theorem dX9_faultCount_22 : decode cX9_faultCount 22 = .ok (.ireturn, 1) := dAt tX9_faultCount_0_ok 12 rfl
def tX9_faultNumber_0 : List (Nat × Instr × Nat) := [(0, .aload_n 0, 1), (1, .iload_n 1, 1), (2, .invokevirtual 200, 3), (5, .istore_n 3, 1), (6, .iload_n 3, 1), (7, .ifCond .eq 9, 3), (10, .iload_n 2, 1), (11, .ifCond .ne 5, 3), (14, .iload_n 3, 1), (15, .ireturn, 1), (16, .aload_n 0, 1), (17, .getfield 47, 3), (20, .getfield 203, 3), (23, .aload_n 0, 1), (24, .getfield 47, 3), (27, .iload_n 1, 1), (28, .iload_n 3, 1), (29, .ifCond .ne 7, 3), (32, .iload_n 2, 1), (33, .goto 6, 3), (36, .iload_n 2, 1), (37, .iconst 1, 1), (38, .isub, 1), (39, .invokevirtual 206, 3), (42, .invokevirtual 147, 3), (45, .ireturn, 1)]
theorem tX9_faultNumber_0_ok : dAll cX9_faultNumber tX9_faultNumber_0 = true := by decide +kernel
theorem dX9_faultNumber_0 : decode cX9_faultNumber 0 = .ok (.aload_n 0, 1) := dAt tX9_faultNumber_0_ok 0 rfl
theorem dX9_faultNumber_1 : decode cX9_faultNumber 1 = .ok (.iload_n 1, 1) := dAt tX9_faultNumber_0_ok 1 rfl
theorem dX9_faultNumber_2 : decode cX9_faultNumber 2 = .ok (.invokevirtual 200, 3) := dAt tX9_faultNumber_0_ok 2 rfl
theorem dX9_faultNumber_5 : decode cX9_faultNumber 5 = .ok (.istore_n 3, 1) := dAt tX9_faultNumber_0_ok 3 rfl
theorem dX9_faultNumber_6 : decode cX9_faultNumber 6 = .ok (.iload_n 3, 1) := dAt tX9_faultNumber_0_ok 4 rfl
theorem dX9_faultNumber_7 : decode cX9_faultNumber 7 = .ok (.ifCond .eq 9, 3) := dAt tX9_faultNumber_0_ok 5 rfl
theorem dX9_faultNumber_10 : decode cX9_faultNumber 10 = .ok (.iload_n 2, 1) := dAt tX9_faultNumber_0_ok 6 rfl
theorem dX9_faultNumber_11 : decode cX9_faultNumber 11 = .ok (.ifCond .ne 5, 3) := dAt tX9_faultNumber_0_ok 7 rfl
theorem dX9_faultNumber_14 : decode cX9_faultNumber 14 = .ok (.iload_n 3, 1) := dAt tX9_faultNumber_0_ok 8 rfl
theorem dX9_faultNumber_15 : decode cX9_faultNumber 15 = .ok (.ireturn, 1) := dAt tX9_faultNumber_0_ok 9 rfl
theorem dX9_faultNumber_16 : decode cX9_faultNumber 16 = .ok (.aload_n 0, 1) := dAt tX9_faultNumber_0_ok 10 rfl
theorem dX9_faultNumber_17 : decode cX9_faultNumber 17 = .ok (.getfield 47, 3) := dAt tX9_faultNumber_0_ok 11 rfl
theorem dX9_faultNumber_20 : decode cX9_faultNumber 20 = .ok (.getfield 203, 3) := dAt tX9_faultNumber_0_ok 12 rfl
theorem dX9_faultNumber_23 : decode cX9_faultNumber 23 = .ok (.aload_n 0, 1) := dAt tX9_faultNumber_0_ok 13 rfl
theorem dX9_faultNumber_24 : decode cX9_faultNumber 24 = .ok (.getfield 47, 3) := dAt tX9_faultNumber_0_ok 14 rfl
theorem dX9_faultNumber_27 : decode cX9_faultNumber 27 = .ok (.iload_n 1, 1) := dAt tX9_faultNumber_0_ok 15 rfl
theorem dX9_faultNumber_28 : decode cX9_faultNumber 28 = .ok (.iload_n 3, 1) := dAt tX9_faultNumber_0_ok 16 rfl
theorem dX9_faultNumber_29 : decode cX9_faultNumber 29 = .ok (.ifCond .ne 7, 3) := dAt tX9_faultNumber_0_ok 17 rfl
theorem dX9_faultNumber_32 : decode cX9_faultNumber 32 = .ok (.iload_n 2, 1) := dAt tX9_faultNumber_0_ok 18 rfl
theorem dX9_faultNumber_33 : decode cX9_faultNumber 33 = .ok (.goto 6, 3) := dAt tX9_faultNumber_0_ok 19 rfl
theorem dX9_faultNumber_36 : decode cX9_faultNumber 36 = .ok (.iload_n 2, 1) := dAt tX9_faultNumber_0_ok 20 rfl
theorem dX9_faultNumber_37 : decode cX9_faultNumber 37 = .ok (.iconst 1, 1) := dAt tX9_faultNumber_0_ok 21 rfl
theorem dX9_faultNumber_38 : decode cX9_faultNumber 38 = .ok (.isub, 1) := dAt tX9_faultNumber_0_ok 22 rfl
theorem dX9_faultNumber_39 : decode cX9_faultNumber 39 = .ok (.invokevirtual 206, 3) := dAt tX9_faultNumber_0_ok 23 rfl
theorem dX9_faultNumber_42 : decode cX9_faultNumber 42 = .ok (.invokevirtual 147, 3) := dAt tX9_faultNumber_0_ok 24 rfl
theorem dX9_faultNumber_45 : decode cX9_faultNumber 45 = .ok (.ireturn, 1) := dAt tX9_faultNumber_0_ok 25 rfl
def tX9_faultThing_0 : List (Nat × Instr × Nat) := [(0, .aload_n 0, 1), (1, .iload_n 1, 1), (2, .invokevirtual 200, 3), (5, .istore_n 3, 1), (6, .iload_n 3, 1), (7, .ifCond .eq 11, 3), (10, .iload_n 2, 1), (11, .ifCond .ne 7, 3), (14, .iconst (-1), 1), (15, .goto 22, 3), (18, .aload_n 0, 1), (19, .getfield 47, 3), (22, .iload_n 1, 1), (23, .iload_n 3, 1), (24, .ifCond .ne 7, 3), (27, .iload_n 2, 1), (28, .goto 6, 3), (31, .iload_n 2, 1), (32, .iconst 1, 1), (33, .isub, 1), (34, .invokevirtual 206, 3), (37, .istore 4, 2), (39, .iload 4, 2), (41, .ifCond .ge 7, 3), (44, .iconst (-1), 1), (45, .goto 15, 3), (48, .aload_n 0, 1), (49, .getfield 47, 3), (52, .getfield 209, 3), (55, .iload 4, 2), (57, .invokevirtual 147, 3), (60, .ireturn, 1)]
theorem tX9_faultThing_0_ok : dAll cX9_faultThing tX9_faultThing_0 = true := by decide +kernel
theorem dX9_faultThing_0 : decode cX9_faultThing 0 = .ok (.aload_n 0, 1) := dAt tX9_faultThing_0_ok 0 rfl
theorem dX9_faultThing_1 : decode cX9_faultThing 1 = .ok (.iload_n 1, 1) := dAt tX9_faultThing_0_ok 1 rfl
theorem dX9_faultThing_2 : decode cX9_faultThing 2 = .ok (.invokevirtual 200, 3) := dAt tX9_faultThing_0_ok 2 rfl
theorem dX9_faultThing_5 : decode cX9_faultThing 5 = .ok (.istore_n 3, 1) := dAt tX9_faultThing_0_ok 3 rfl
theorem dX9_faultThing_6 : decode cX9_faultThing 6 = .ok (.iload_n 3, 1) := dAt tX9_faultThing_0_ok 4 rfl
theorem dX9_faultThing_7 : decode cX9_faultThing 7 = .ok (.ifCond .eq 11, 3) := dAt tX9_faultThing_0_ok 5 rfl
theorem dX9_faultThing_10 : decode cX9_faultThing 10 = .ok (.iload_n 2, 1) := dAt tX9_faultThing_0_ok 6 rfl
theorem dX9_faultThing_11 : decode cX9_faultThing 11 = .ok (.ifCond .ne 7, 3) := dAt tX9_faultThing_0_ok 7 rfl
theorem dX9_faultThing_14 : decode cX9_faultThing 14 = .ok (.iconst (-1), 1) := dAt tX9_faultThing_0_ok 8 rfl
theorem dX9_faultThing_15 : decode cX9_faultThing 15 = .ok (.goto 22, 3) := dAt tX9_faultThing_0_ok 9 rfl
theorem dX9_faultThing_18 : decode cX9_faultThing 18 = .ok (.aload_n 0, 1) := dAt tX9_faultThing_0_ok 10 rfl
theorem dX9_faultThing_19 : decode cX9_faultThing 19 = .ok (.getfield 47, 3) := dAt tX9_faultThing_0_ok 11 rfl
theorem dX9_faultThing_22 : decode cX9_faultThing 22 = .ok (.iload_n 1, 1) := dAt tX9_faultThing_0_ok 12 rfl
theorem dX9_faultThing_23 : decode cX9_faultThing 23 = .ok (.iload_n 3, 1) := dAt tX9_faultThing_0_ok 13 rfl
theorem dX9_faultThing_24 : decode cX9_faultThing 24 = .ok (.ifCond .ne 7, 3) := dAt tX9_faultThing_0_ok 14 rfl
theorem dX9_faultThing_27 : decode cX9_faultThing 27 = .ok (.iload_n 2, 1) := dAt tX9_faultThing_0_ok 15 rfl
theorem dX9_faultThing_28 : decode cX9_faultThing 28 = .ok (.goto 6, 3) := dAt tX9_faultThing_0_ok 16 rfl
theorem dX9_faultThing_31 : decode cX9_faultThing 31 = .ok (.iload_n 2, 1) := dAt tX9_faultThing_0_ok 17 rfl
theorem dX9_faultThing_32 : decode cX9_faultThing 32 = .ok (.iconst 1, 1) := dAt tX9_faultThing_0_ok 18 rfl
theorem dX9_faultThing_33 : decode cX9_faultThing 33 = .ok (.isub, 1) := dAt tX9_faultThing_0_ok 19 rfl
theorem dX9_faultThing_34 : decode cX9_faultThing 34 = .ok (.invokevirtual 206, 3) := dAt tX9_faultThing_0_ok 20 rfl
theorem dX9_faultThing_37 : decode cX9_faultThing 37 = .ok (.istore 4, 2) := dAt tX9_faultThing_0_ok 21 rfl
theorem dX9_faultThing_39 : decode cX9_faultThing 39 = .ok (.iload 4, 2) := dAt tX9_faultThing_0_ok 22 rfl
theorem dX9_faultThing_41 : decode cX9_faultThing 41 = .ok (.ifCond .ge 7, 3) := dAt tX9_faultThing_0_ok 23 rfl
theorem dX9_faultThing_44 : decode cX9_faultThing 44 = .ok (.iconst (-1), 1) := dAt tX9_faultThing_0_ok 24 rfl
theorem dX9_faultThing_45 : decode cX9_faultThing 45 = .ok (.goto 15, 3) := dAt tX9_faultThing_0_ok 25 rfl
theorem dX9_faultThing_48 : decode cX9_faultThing 48 = .ok (.aload_n 0, 1) := dAt tX9_faultThing_0_ok 26 rfl
theorem dX9_faultThing_49 : decode cX9_faultThing 49 = .ok (.getfield 47, 3) := dAt tX9_faultThing_0_ok 27 rfl
theorem dX9_faultThing_52 : decode cX9_faultThing 52 = .ok (.getfield 209, 3) := dAt tX9_faultThing_0_ok 28 rfl
theorem dX9_faultThing_55 : decode cX9_faultThing 55 = .ok (.iload 4, 2) := dAt tX9_faultThing_0_ok 29 rfl
theorem dX9_faultThing_57 : decode cX9_faultThing 57 = .ok (.invokevirtual 147, 3) := dAt tX9_faultThing_0_ok 30 rfl
theorem dX9_faultThing_60 : decode cX9_faultThing 60 = .ok (.ireturn, 1) := dAt tX9_faultThing_0_ok 31 rfl
def tX10_init_0 : List (Nat × Instr × Nat) := [(0, .aload_n 0, 1), (1, .invokespecial 3, 3), (4, .aload_n 0, 1), (5, .new 9, 3), (8, .dup, 1), (9, .invokespecial 11, 3), (12, .putfield 12, 3), (15, .aload_n 0, 1), (16, .aload_n 0, 1), (17, .getfield 12, 3), (20, .getfield 18, 3), (23, .putfield 22, 3), (26, .aload_n 0, 1), (27, .new 23, 3), (30, .dup, 1), (31, .invokespecial 25, 3), (34, .putfield 26, 3), (37, .aload_n 0, 1), (38, .aload_n 0, 1), (39, .getfield 26, 3), (42, .getfield 30, 3), (45, .putfield 33, 3), (48, .aload_n 0, 1), (49, .iconst 4, 1), (50, .anewarray 34, 3), (53, .putfield 36, 3), (56, .aload_n 0, 1), (57, .new 40, 3), (60, .dup, 1), (61, .invokespecial 42, 3), (64, .putfield 43, 3), (67, .aload_n 0, 1), (68, .aload_n 0, 1), (69, .getfield 43, 3), (72, .getfield 47, 3), (75, .putfield 51, 3), (78, .iconst 0, 1), (79, .istore_n 1, 1), (80, .iload_n 1, 1), (81, .aload_n 0, 1), (82, .getfield 36, 3), (85, .arraylength, 1), (86, .if_icmp .ge 35, 3), (89, .aload_n 0, 1), (90, .getfield 36, 3), (93, .iload_n 1, 1), (94, .new 34, 3), (97, .dup, 1)]
theorem tX10_init_0_ok : dAll cX10_init tX10_init_0 = true := by decide +kernel
theorem dX10_init_0 : decode cX10_init 0 = .ok (.aload_n 0, 1) := dAt tX10_init_0_ok 0 rfl
theorem dX10_init_1 : decode cX10_init 1 = .ok (.invokespecial 3, 3) := dAt tX10_init_0_ok 1 rfl
theorem dX10_init_4 : decode cX10_init 4 = .ok (.aload_n 0, 1) := dAt tX10_init_0_ok 2 rfl
theorem dX10_init_5 : decode cX10_init 5 = .ok (.new 9, 3) := dAt tX10_init_0_ok 3 rfl
theorem dX10_init_8 : decode cX10_init 8 = .ok (.dup, 1) := dAt tX10_init_0_ok 4 rfl
theorem dX10_init_9 : decode cX10_init 9 = .ok (.invokespecial 11, 3) := dAt tX10_init_0_ok 5 rfl
theorem dX10_init_12 : decode cX10_init 12 = .ok (.putfield 12, 3) := dAt tX10_init_0_ok 6 rfl
theorem dX10_init_15 : decode cX10_init 15 = .ok (.aload_n 0, 1) := dAt tX10_init_0_ok 7 rfl
theorem dX10_init_16 : decode cX10_init 16 = .ok (.aload_n 0, 1) := dAt tX10_init_0_ok 8 rfl
theorem dX10_init_17 : decode cX10_init 17 = .ok (.getfield 12, 3) := dAt tX10_init_0_ok 9 rfl
theorem dX10_init_20 : decode cX10_init 20 = .ok (.getfield 18, 3) := dAt tX10_init_0_ok 10 rfl
theorem dX10_init_23 : decode cX10_init 23 = .ok (.putfield 22, 3) := dAt tX10_init_0_ok 11 rfl
theorem dX10_init_26 : decode cX10_init 26 = .ok (.aload_n 0, 1) := dAt tX10_init_0_ok 12 rfl
theorem dX10_init_27 : decode cX10_init 27 = .ok (.new 23, 3) := dAt tX10_init_0_ok 13 rfl
theorem dX10_init_30 : decode cX10_init 30 = .ok (.dup, 1) := dAt tX10_init_0_ok 14 rfl
theorem dX10_init_31 : decode cX10_init 31 = .ok (.invokespecial 25, 3) := dAt tX10_init_0_ok 15 rfl
theorem dX10_init_34 : decode cX10_init 34 = .ok (.putfield 26, 3) := dAt tX10_init_0_ok 16 rfl
theorem dX10_init_37 : decode cX10_init 37 = .ok (.aload_n 0, 1) := dAt tX10_init_0_ok 17 rfl
theorem dX10_init_38 : decode cX10_init 38 = .ok (.aload_n 0, 1) := dAt tX10_init_0_ok 18 rfl
theorem dX10_init_39 : decode cX10_init 39 = .ok (.getfield 26, 3) := dAt tX10_init_0_ok 19 rfl
theorem dX10_init_42 : decode cX10_init 42 = .ok (.getfield 30, 3) := dAt tX10_init_0_ok 20 rfl
theorem dX10_init_45 : decode cX10_init 45 = .ok (.putfield 33, 3) := dAt tX10_init_0_ok 21 rfl
theorem dX10_init_48 : decode cX10_init 48 = .ok (.aload_n 0, 1) := dAt tX10_init_0_ok 22 rfl
theorem dX10_init_49 : decode cX10_init 49 = .ok (.iconst 4, 1) := dAt tX10_init_0_ok 23 rfl
theorem dX10_init_50 : decode cX10_init 50 = .ok (.anewarray 34, 3) := dAt tX10_init_0_ok 24 rfl
theorem dX10_init_53 : decode cX10_init 53 = .ok (.putfield 36, 3) := dAt tX10_init_0_ok 25 rfl
theorem dX10_init_56 : decode cX10_init 56 = .ok (.aload_n 0, 1) := dAt tX10_init_0_ok 26 rfl
theorem dX10_init_57 : decode cX10_init 57 = .ok (.new 40, 3) := dAt tX10_init_0_ok 27 rfl
theorem dX10_init_60 : decode cX10_init 60 = .ok (.dup, 1) := dAt tX10_init_0_ok 28 rfl
theorem dX10_init_61 : decode cX10_init 61 = .ok (.invokespecial 42, 3) := dAt tX10_init_0_ok 29 rfl
theorem dX10_init_64 : decode cX10_init 64 = .ok (.putfield 43, 3) := dAt tX10_init_0_ok 30 rfl
theorem dX10_init_67 : decode cX10_init 67 = .ok (.aload_n 0, 1) := dAt tX10_init_0_ok 31 rfl
theorem dX10_init_68 : decode cX10_init 68 = .ok (.aload_n 0, 1) := dAt tX10_init_0_ok 32 rfl
theorem dX10_init_69 : decode cX10_init 69 = .ok (.getfield 43, 3) := dAt tX10_init_0_ok 33 rfl
theorem dX10_init_72 : decode cX10_init 72 = .ok (.getfield 47, 3) := dAt tX10_init_0_ok 34 rfl
theorem dX10_init_75 : decode cX10_init 75 = .ok (.putfield 51, 3) := dAt tX10_init_0_ok 35 rfl
theorem dX10_init_78 : decode cX10_init 78 = .ok (.iconst 0, 1) := dAt tX10_init_0_ok 36 rfl
theorem dX10_init_79 : decode cX10_init 79 = .ok (.istore_n 1, 1) := dAt tX10_init_0_ok 37 rfl
theorem dX10_init_80 : decode cX10_init 80 = .ok (.iload_n 1, 1) := dAt tX10_init_0_ok 38 rfl
theorem dX10_init_81 : decode cX10_init 81 = .ok (.aload_n 0, 1) := dAt tX10_init_0_ok 39 rfl
theorem dX10_init_82 : decode cX10_init 82 = .ok (.getfield 36, 3) := dAt tX10_init_0_ok 40 rfl
theorem dX10_init_85 : decode cX10_init 85 = .ok (.arraylength, 1) := dAt tX10_init_0_ok 41 rfl
theorem dX10_init_86 : decode cX10_init 86 = .ok (.if_icmp .ge 35, 3) := dAt tX10_init_0_ok 42 rfl
theorem dX10_init_89 : decode cX10_init 89 = .ok (.aload_n 0, 1) := dAt tX10_init_0_ok 43 rfl
theorem dX10_init_90 : decode cX10_init 90 = .ok (.getfield 36, 3) := dAt tX10_init_0_ok 44 rfl
theorem dX10_init_93 : decode cX10_init 93 = .ok (.iload_n 1, 1) := dAt tX10_init_0_ok 45 rfl
theorem dX10_init_94 : decode cX10_init 94 = .ok (.new 34, 3) := dAt tX10_init_0_ok 46 rfl
theorem dX10_init_97 : decode cX10_init 97 = .ok (.dup, 1) := dAt tX10_init_0_ok 47 rfl
def tX10_init_98 : List (Nat × Instr × Nat) := [(98, .bipush 40, 2), (100, .invokespecial 52, 3), (103, .aastore, 1), (104, .aload_n 0, 1), (105, .getfield 36, 3), (108, .iload_n 1, 1), (109, .aaload, 1), (110, .bipush (-11), 2), (112, .putfield 55, 3), (115, .iinc 1 1, 3), (118, .goto (-38), 3), (121, .return_, 1)]
theorem tX10_init_98_ok : dAll cX10_init tX10_init_98 = true := by decide +kernel
theorem dX10_init_98 : decode cX10_init 98 = .ok (.bipush 40, 2) := dAt tX10_init_98_ok 0 rfl
theorem dX10_init_100 : decode cX10_init 100 = .ok (.invokespecial 52, 3) := dAt tX10_init_98_ok 1 rfl
theorem dX10_init_103 : decode cX10_init 103 = .ok (.aastore, 1) := dAt tX10_init_98_ok 2 rfl
theorem dX10_init_104 : decode cX10_init 104 = .ok (.aload_n 0, 1) := dAt tX10_init_98_ok 3 rfl
theorem dX10_init_105 : decode cX10_init 105 = .ok (.getfield 36, 3) := dAt tX10_init_98_ok 4 rfl
theorem dX10_init_108 : decode cX10_init 108 = .ok (.iload_n 1, 1) := dAt tX10_init_98_ok 5 rfl
theorem dX10_init_109 : decode cX10_init 109 = .ok (.aaload, 1) := dAt tX10_init_98_ok 6 rfl
theorem dX10_init_110 : decode cX10_init 110 = .ok (.bipush (-11), 2) := dAt tX10_init_98_ok 7 rfl
theorem dX10_init_112 : decode cX10_init 112 = .ok (.putfield 55, 3) := dAt tX10_init_98_ok 8 rfl
theorem dX10_init_115 : decode cX10_init 115 = .ok (.iinc 1 1, 3) := dAt tX10_init_98_ok 9 rfl
theorem dX10_init_118 : decode cX10_init 118 = .ok (.goto (-38), 3) := dAt tX10_init_98_ok 10 rfl
theorem dX10_init_121 : decode cX10_init 121 = .ok (.return_, 1) := dAt tX10_init_98_ok 11 rfl
def tX10_feed_0 : List (Nat × Instr × Nat) := [(0, .iload_n 1, 1), (1, .iconst 1, 1), (2, .if_icmp .lt 9, 3), (5, .iload_n 1, 1), (6, .bipush 127, 2), (8, .if_icmp .le 6, 3), (11, .bipush (-2), 2), (13, .ireturn, 1), (14, .aload_n 0, 1), (15, .getfield 22, 3), (18, .iload_n 1, 1), (19, .invokevirtual 59, 3), (22, .ifCond .eq 13, 3), (25, .aload_n 0, 1), (26, .getfield 22, 3), (29, .getfield 55, 3), (32, .goto 5, 3), (35, .bipush (-4), 2), (37, .ireturn, 1)]
theorem tX10_feed_0_ok : dAll cX10_feed tX10_feed_0 = true := by decide +kernel
theorem dX10_feed_0 : decode cX10_feed 0 = .ok (.iload_n 1, 1) := dAt tX10_feed_0_ok 0 rfl
theorem dX10_feed_1 : decode cX10_feed 1 = .ok (.iconst 1, 1) := dAt tX10_feed_0_ok 1 rfl
theorem dX10_feed_2 : decode cX10_feed 2 = .ok (.if_icmp .lt 9, 3) := dAt tX10_feed_0_ok 2 rfl
theorem dX10_feed_5 : decode cX10_feed 5 = .ok (.iload_n 1, 1) := dAt tX10_feed_0_ok 3 rfl
theorem dX10_feed_6 : decode cX10_feed 6 = .ok (.bipush 127, 2) := dAt tX10_feed_0_ok 4 rfl
theorem dX10_feed_8 : decode cX10_feed 8 = .ok (.if_icmp .le 6, 3) := dAt tX10_feed_0_ok 5 rfl
theorem dX10_feed_11 : decode cX10_feed 11 = .ok (.bipush (-2), 2) := dAt tX10_feed_0_ok 6 rfl
theorem dX10_feed_13 : decode cX10_feed 13 = .ok (.ireturn, 1) := dAt tX10_feed_0_ok 7 rfl
theorem dX10_feed_14 : decode cX10_feed 14 = .ok (.aload_n 0, 1) := dAt tX10_feed_0_ok 8 rfl
theorem dX10_feed_15 : decode cX10_feed 15 = .ok (.getfield 22, 3) := dAt tX10_feed_0_ok 9 rfl
theorem dX10_feed_18 : decode cX10_feed 18 = .ok (.iload_n 1, 1) := dAt tX10_feed_0_ok 10 rfl
theorem dX10_feed_19 : decode cX10_feed 19 = .ok (.invokevirtual 59, 3) := dAt tX10_feed_0_ok 11 rfl
theorem dX10_feed_22 : decode cX10_feed 22 = .ok (.ifCond .eq 13, 3) := dAt tX10_feed_0_ok 12 rfl
theorem dX10_feed_25 : decode cX10_feed 25 = .ok (.aload_n 0, 1) := dAt tX10_feed_0_ok 13 rfl
theorem dX10_feed_26 : decode cX10_feed 26 = .ok (.getfield 22, 3) := dAt tX10_feed_0_ok 14 rfl
theorem dX10_feed_29 : decode cX10_feed 29 = .ok (.getfield 55, 3) := dAt tX10_feed_0_ok 15 rfl
theorem dX10_feed_32 : decode cX10_feed 32 = .ok (.goto 5, 3) := dAt tX10_feed_0_ok 16 rfl
theorem dX10_feed_35 : decode cX10_feed 35 = .ok (.bipush (-4), 2) := dAt tX10_feed_0_ok 17 rfl
theorem dX10_feed_37 : decode cX10_feed 37 = .ok (.ireturn, 1) := dAt tX10_feed_0_ok 18 rfl
def tX10_clear_0 : List (Nat × Instr × Nat) := [(0, .aload_n 0, 1), (1, .getfield 22, 3), (4, .getfield 55, 3), (7, .istore_n 1, 1), (8, .aload_n 0, 1), (9, .getfield 22, 3), (12, .iconst 0, 1), (13, .putfield 55, 3), (16, .iload_n 1, 1), (17, .ireturn, 1)]
theorem tX10_clear_0_ok : dAll cX10_clear tX10_clear_0 = true := by decide +kernel
theorem dX10_clear_0 : decode cX10_clear 0 = .ok (.aload_n 0, 1) := dAt tX10_clear_0_ok 0 rfl
theorem dX10_clear_1 : decode cX10_clear 1 = .ok (.getfield 22, 3) := dAt tX10_clear_0_ok 1 rfl
theorem dX10_clear_4 : decode cX10_clear 4 = .ok (.getfield 55, 3) := dAt tX10_clear_0_ok 2 rfl
theorem dX10_clear_7 : decode cX10_clear 7 = .ok (.istore_n 1, 1) := dAt tX10_clear_0_ok 3 rfl
theorem dX10_clear_8 : decode cX10_clear 8 = .ok (.aload_n 0, 1) := dAt tX10_clear_0_ok 4 rfl
theorem dX10_clear_9 : decode cX10_clear 9 = .ok (.getfield 22, 3) := dAt tX10_clear_0_ok 5 rfl
theorem dX10_clear_12 : decode cX10_clear 12 = .ok (.iconst 0, 1) := dAt tX10_clear_0_ok 6 rfl
theorem dX10_clear_13 : decode cX10_clear 13 = .ok (.putfield 55, 3) := dAt tX10_clear_0_ok 7 rfl
theorem dX10_clear_16 : decode cX10_clear 16 = .ok (.iload_n 1, 1) := dAt tX10_clear_0_ok 8 rfl
theorem dX10_clear_17 : decode cX10_clear 17 = .ok (.ireturn, 1) := dAt tX10_clear_0_ok 9 rfl
def tX10_spell_0 : List (Nat × Instr × Nat) := [(0, .aload_n 0, 1), (1, .getfield 51, 3), (4, .iload_n 1, 1), (5, .invokevirtual 63, 3), (8, .astore_n 2, 1), (9, .aload_n 2, 1), (10, .ifnonnull 7, 3), (13, .iconst (-1), 1), (14, .goto 14, 3), (17, .aload_n 0, 1), (18, .getfield 26, 3), (21, .aload_n 2, 1), (22, .getfield 69, 3), (25, .invokevirtual 75, 3), (28, .ireturn, 1)]
theorem tX10_spell_0_ok : dAll cX10_spell tX10_spell_0 = true := by decide +kernel
theorem dX10_spell_0 : decode cX10_spell 0 = .ok (.aload_n 0, 1) := dAt tX10_spell_0_ok 0 rfl
theorem dX10_spell_1 : decode cX10_spell 1 = .ok (.getfield 51, 3) := dAt tX10_spell_0_ok 1 rfl
theorem dX10_spell_4 : decode cX10_spell 4 = .ok (.iload_n 1, 1) := dAt tX10_spell_0_ok 2 rfl
theorem dX10_spell_5 : decode cX10_spell 5 = .ok (.invokevirtual 63, 3) := dAt tX10_spell_0_ok 3 rfl
theorem dX10_spell_8 : decode cX10_spell 8 = .ok (.astore_n 2, 1) := dAt tX10_spell_0_ok 4 rfl
theorem dX10_spell_9 : decode cX10_spell 9 = .ok (.aload_n 2, 1) := dAt tX10_spell_0_ok 5 rfl
theorem dX10_spell_10 : decode cX10_spell 10 = .ok (.ifnonnull 7, 3) := dAt tX10_spell_0_ok 6 rfl
theorem dX10_spell_13 : decode cX10_spell 13 = .ok (.iconst (-1), 1) := dAt tX10_spell_0_ok 7 rfl
theorem dX10_spell_14 : decode cX10_spell 14 = .ok (.goto 14, 3) := dAt tX10_spell_0_ok 8 rfl
theorem dX10_spell_17 : decode cX10_spell 17 = .ok (.aload_n 0, 1) := dAt tX10_spell_0_ok 9 rfl
theorem dX10_spell_18 : decode cX10_spell 18 = .ok (.getfield 26, 3) := dAt tX10_spell_0_ok 10 rfl
theorem dX10_spell_21 : decode cX10_spell 21 = .ok (.aload_n 2, 1) := dAt tX10_spell_0_ok 11 rfl
theorem dX10_spell_22 : decode cX10_spell 22 = .ok (.getfield 69, 3) := dAt tX10_spell_0_ok 12 rfl
theorem dX10_spell_25 : decode cX10_spell 25 = .ok (.invokevirtual 75, 3) := dAt tX10_spell_0_ok 13 rfl
theorem dX10_spell_28 : decode cX10_spell 28 = .ok (.ireturn, 1) := dAt tX10_spell_0_ok 14 rfl
def tX10_spellTask_0 : List (Nat × Instr × Nat) := [(0, .aload_n 0, 1), (1, .getfield 51, 3), (4, .iload_n 1, 1), (5, .invokevirtual 79, 3), (8, .astore_n 2, 1), (9, .aload_n 2, 1), (10, .ifnonnull 7, 3), (13, .iconst (-1), 1), (14, .goto 14, 3), (17, .aload_n 0, 1), (18, .getfield 26, 3), (21, .aload_n 2, 1), (22, .getfield 83, 3), (25, .invokevirtual 75, 3), (28, .ireturn, 1)]
theorem tX10_spellTask_0_ok : dAll cX10_spellTask tX10_spellTask_0 = true := by decide +kernel
theorem dX10_spellTask_0 : decode cX10_spellTask 0 = .ok (.aload_n 0, 1) := dAt tX10_spellTask_0_ok 0 rfl
theorem dX10_spellTask_1 : decode cX10_spellTask 1 = .ok (.getfield 51, 3) := dAt tX10_spellTask_0_ok 1 rfl
theorem dX10_spellTask_4 : decode cX10_spellTask 4 = .ok (.iload_n 1, 1) := dAt tX10_spellTask_0_ok 2 rfl
theorem dX10_spellTask_5 : decode cX10_spellTask 5 = .ok (.invokevirtual 79, 3) := dAt tX10_spellTask_0_ok 3 rfl
theorem dX10_spellTask_8 : decode cX10_spellTask 8 = .ok (.astore_n 2, 1) := dAt tX10_spellTask_0_ok 4 rfl
theorem dX10_spellTask_9 : decode cX10_spellTask 9 = .ok (.aload_n 2, 1) := dAt tX10_spellTask_0_ok 5 rfl
theorem dX10_spellTask_10 : decode cX10_spellTask 10 = .ok (.ifnonnull 7, 3) := dAt tX10_spellTask_0_ok 6 rfl
theorem dX10_spellTask_13 : decode cX10_spellTask 13 = .ok (.iconst (-1), 1) := dAt tX10_spellTask_0_ok 7 rfl
theorem dX10_spellTask_14 : decode cX10_spellTask 14 = .ok (.goto 14, 3) := dAt tX10_spellTask_0_ok 8 rfl
theorem dX10_spellTask_17 : decode cX10_spellTask 17 = .ok (.aload_n 0, 1) := dAt tX10_spellTask_0_ok 9 rfl
theorem dX10_spellTask_18 : decode cX10_spellTask 18 = .ok (.getfield 26, 3) := dAt tX10_spellTask_0_ok 10 rfl
theorem dX10_spellTask_21 : decode cX10_spellTask 21 = .ok (.aload_n 2, 1) := dAt tX10_spellTask_0_ok 11 rfl
theorem dX10_spellTask_22 : decode cX10_spellTask 22 = .ok (.getfield 83, 3) := dAt tX10_spellTask_0_ok 12 rfl
theorem dX10_spellTask_25 : decode cX10_spellTask 25 = .ok (.invokevirtual 75, 3) := dAt tX10_spellTask_0_ok 13 rfl
theorem dX10_spellTask_28 : decode cX10_spellTask 28 = .ok (.ireturn, 1) := dAt tX10_spellTask_0_ok 14 rfl
def tX10_paper_0 : List (Nat × Instr × Nat) := [(0, .aload_n 0, 1), (1, .getfield 33, 3), (4, .iload_n 1, 1), (5, .invokevirtual 88, 3), (8, .ifCond .eq 14, 3), (11, .aload_n 0, 1), (12, .getfield 33, 3), (15, .iload_n 1, 1), (16, .invokevirtual 91, 3), (19, .goto 4, 3), (22, .iconst (-1), 1), (23, .ireturn, 1)]
theorem tX10_paper_0_ok : dAll cX10_paper tX10_paper_0 = true := by decide +kernel
theorem dX10_paper_0 : decode cX10_paper 0 = .ok (.aload_n 0, 1) := dAt tX10_paper_0_ok 0 rfl
theorem dX10_paper_1 : decode cX10_paper 1 = .ok (.getfield 33, 3) := dAt tX10_paper_0_ok 1 rfl
theorem dX10_paper_4 : decode cX10_paper 4 = .ok (.iload_n 1, 1) := dAt tX10_paper_0_ok 2 rfl
theorem dX10_paper_5 : decode cX10_paper 5 = .ok (.invokevirtual 88, 3) := dAt tX10_paper_0_ok 3 rfl
theorem dX10_paper_8 : decode cX10_paper 8 = .ok (.ifCond .eq 14, 3) := dAt tX10_paper_0_ok 4 rfl
theorem dX10_paper_11 : decode cX10_paper 11 = .ok (.aload_n 0, 1) := dAt tX10_paper_0_ok 5 rfl
theorem dX10_paper_12 : decode cX10_paper 12 = .ok (.getfield 33, 3) := dAt tX10_paper_0_ok 6 rfl
theorem dX10_paper_15 : decode cX10_paper 15 = .ok (.iload_n 1, 1) := dAt tX10_paper_0_ok 7 rfl
theorem dX10_paper_16 : decode cX10_paper 16 = .ok (.invokevirtual 91, 3) := dAt tX10_paper_0_ok 8 rfl
theorem dX10_paper_19 : decode cX10_paper 19 = .ok (.goto 4, 3) := dAt tX10_paper_0_ok 9 rfl
theorem dX10_paper_22 : decode cX10_paper 22 = .ok (.iconst (-1), 1) := dAt tX10_paper_0_ok 10 rfl
theorem dX10_paper_23 : decode cX10_paper 23 = .ok (.ireturn, 1) := dAt tX10_paper_0_ok 11 rfl
def tX10_open_0 : List (Nat × Instr × Nat) := [(0, .aload_n 0, 1), (1, .getfield 51, 3), (4, .iload_n 1, 1), (5, .invokevirtual 95, 3), (8, .astore_n 2, 1), (9, .aload_n 2, 1), (10, .ifnonnull 5, 3), (13, .iconst (-1), 1), (14, .ireturn, 1), (15, .aload_n 2, 1), (16, .getfield 99, 3), (19, .ifCond .eq 6, 3), (22, .bipush (-3), 2), (24, .ireturn, 1), (25, .aload_n 0, 1), (26, .getfield 51, 3), (29, .invokevirtual 104, 3), (32, .ifCond .eq 8, 3), (35, .bipush (-4), 2), (37, .goto 13, 3), (40, .aload_n 0, 1), (41, .getfield 51, 3), (44, .iload_n 1, 1), (45, .bipush (-5), 2), (47, .invokevirtual 108, 3), (50, .ireturn, 1)]
theorem tX10_open_0_ok : dAll cX10_open tX10_open_0 = true := by decide +kernel
theorem dX10_open_0 : decode cX10_open 0 = .ok (.aload_n 0, 1) := dAt tX10_open_0_ok 0 rfl
theorem dX10_open_1 : decode cX10_open 1 = .ok (.getfield 51, 3) := dAt tX10_open_0_ok 1 rfl
theorem dX10_open_4 : decode cX10_open 4 = .ok (.iload_n 1, 1) := dAt tX10_open_0_ok 2 rfl
theorem dX10_open_5 : decode cX10_open 5 = .ok (.invokevirtual 95, 3) := dAt tX10_open_0_ok 3 rfl
theorem dX10_open_8 : decode cX10_open 8 = .ok (.astore_n 2, 1) := dAt tX10_open_0_ok 4 rfl
theorem dX10_open_9 : decode cX10_open 9 = .ok (.aload_n 2, 1) := dAt tX10_open_0_ok 5 rfl
theorem dX10_open_10 : decode cX10_open 10 = .ok (.ifnonnull 5, 3) := dAt tX10_open_0_ok 6 rfl
theorem dX10_open_13 : decode cX10_open 13 = .ok (.iconst (-1), 1) := dAt tX10_open_0_ok 7 rfl
theorem dX10_open_14 : decode cX10_open 14 = .ok (.ireturn, 1) := dAt tX10_open_0_ok 8 rfl
theorem dX10_open_15 : decode cX10_open 15 = .ok (.aload_n 2, 1) := dAt tX10_open_0_ok 9 rfl
theorem dX10_open_16 : decode cX10_open 16 = .ok (.getfield 99, 3) := dAt tX10_open_0_ok 10 rfl
theorem dX10_open_19 : decode cX10_open 19 = .ok (.ifCond .eq 6, 3) := dAt tX10_open_0_ok 11 rfl
theorem dX10_open_22 : decode cX10_open 22 = .ok (.bipush (-3), 2) := dAt tX10_open_0_ok 12 rfl
theorem dX10_open_24 : decode cX10_open 24 = .ok (.ireturn, 1) := dAt tX10_open_0_ok 13 rfl
theorem dX10_open_25 : decode cX10_open 25 = .ok (.aload_n 0, 1) := dAt tX10_open_0_ok 14 rfl
theorem dX10_open_26 : decode cX10_open 26 = .ok (.getfield 51, 3) := dAt tX10_open_0_ok 15 rfl
theorem dX10_open_29 : decode cX10_open 29 = .ok (.invokevirtual 104, 3) := dAt tX10_open_0_ok 16 rfl
theorem dX10_open_32 : decode cX10_open 32 = .ok (.ifCond .eq 8, 3) := dAt tX10_open_0_ok 17 rfl
theorem dX10_open_35 : decode cX10_open 35 = .ok (.bipush (-4), 2) := dAt tX10_open_0_ok 18 rfl
theorem dX10_open_37 : decode cX10_open 37 = .ok (.goto 13, 3) := dAt tX10_open_0_ok 19 rfl
theorem dX10_open_40 : decode cX10_open 40 = .ok (.aload_n 0, 1) := dAt tX10_open_0_ok 20 rfl
theorem dX10_open_41 : decode cX10_open 41 = .ok (.getfield 51, 3) := dAt tX10_open_0_ok 21 rfl
theorem dX10_open_44 : decode cX10_open 44 = .ok (.iload_n 1, 1) := dAt tX10_open_0_ok 22 rfl
theorem dX10_open_45 : decode cX10_open 45 = .ok (.bipush (-5), 2) := dAt tX10_open_0_ok 23 rfl
theorem dX10_open_47 : decode cX10_open 47 = .ok (.invokevirtual 108, 3) := dAt tX10_open_0_ok 24 rfl
theorem dX10_open_50 : decode cX10_open 50 = .ok (.ireturn, 1) := dAt tX10_open_0_ok 25 rfl
def tX10_take_0 : List (Nat × Instr × Nat) := [(0, .aload_n 0, 1), (1, .getfield 51, 3), (4, .iload_n 1, 1), (5, .invokevirtual 95, 3), (8, .astore_n 2, 1), (9, .aload_n 2, 1), (10, .ifnonnull 5, 3), (13, .iconst (-1), 1), (14, .ireturn, 1), (15, .aload_n 2, 1), (16, .getfield 99, 3), (19, .ifCond .eq 6, 3), (22, .bipush (-3), 2), (24, .ireturn, 1), (25, .aload_n 0, 1), (26, .getfield 12, 3), (29, .invokevirtual 112, 3), (32, .astore_n 3, 1), (33, .aload_n 0, 1), (34, .getfield 22, 3), (37, .iconst 0, 1), (38, .putfield 55, 3), (41, .aload_n 3, 1), (42, .ifnonnull 14, 3), (45, .bipush (-100), 2), (47, .aload_n 0, 1), (48, .getfield 12, 3), (51, .getfield 116, 3), (54, .isub, 1), (55, .ireturn, 1), (56, .aload_n 0, 1), (57, .getfield 51, 3), (60, .invokevirtual 119, 3), (63, .ifCond .eq 6, 3), (66, .bipush (-4), 2), (68, .ireturn, 1), (69, .aload_n 0, 1), (70, .getfield 51, 3), (73, .aload_n 3, 1), (74, .getfield 122, 3), (77, .invokevirtual 128, 3), (80, .ifCond .lt 8, 3), (83, .bipush (-3), 2), (85, .goto 12, 3), (88, .aload_n 0, 1), (89, .getfield 51, 3), (92, .aload_n 3, 1), (93, .iload_n 1, 1)]
theorem tX10_take_0_ok : dAll cX10_take tX10_take_0 = true := by decide +kernel
theorem dX10_take_0 : decode cX10_take 0 = .ok (.aload_n 0, 1) := dAt tX10_take_0_ok 0 rfl
theorem dX10_take_1 : decode cX10_take 1 = .ok (.getfield 51, 3) := dAt tX10_take_0_ok 1 rfl
theorem dX10_take_4 : decode cX10_take 4 = .ok (.iload_n 1, 1) := dAt tX10_take_0_ok 2 rfl
theorem dX10_take_5 : decode cX10_take 5 = .ok (.invokevirtual 95, 3) := dAt tX10_take_0_ok 3 rfl
theorem dX10_take_8 : decode cX10_take 8 = .ok (.astore_n 2, 1) := dAt tX10_take_0_ok 4 rfl
theorem dX10_take_9 : decode cX10_take 9 = .ok (.aload_n 2, 1) := dAt tX10_take_0_ok 5 rfl
theorem dX10_take_10 : decode cX10_take 10 = .ok (.ifnonnull 5, 3) := dAt tX10_take_0_ok 6 rfl
theorem dX10_take_13 : decode cX10_take 13 = .ok (.iconst (-1), 1) := dAt tX10_take_0_ok 7 rfl
theorem dX10_take_14 : decode cX10_take 14 = .ok (.ireturn, 1) := dAt tX10_take_0_ok 8 rfl
theorem dX10_take_15 : decode cX10_take 15 = .ok (.aload_n 2, 1) := dAt tX10_take_0_ok 9 rfl
theorem dX10_take_16 : decode cX10_take 16 = .ok (.getfield 99, 3) := dAt tX10_take_0_ok 10 rfl
theorem dX10_take_19 : decode cX10_take 19 = .ok (.ifCond .eq 6, 3) := dAt tX10_take_0_ok 11 rfl
theorem dX10_take_22 : decode cX10_take 22 = .ok (.bipush (-3), 2) := dAt tX10_take_0_ok 12 rfl
theorem dX10_take_24 : decode cX10_take 24 = .ok (.ireturn, 1) := dAt tX10_take_0_ok 13 rfl
theorem dX10_take_25 : decode cX10_take 25 = .ok (.aload_n 0, 1) := dAt tX10_take_0_ok 14 rfl
theorem dX10_take_26 : decode cX10_take 26 = .ok (.getfield 12, 3) := dAt tX10_take_0_ok 15 rfl
theorem dX10_take_29 : decode cX10_take 29 = .ok (.invokevirtual 112, 3) := dAt tX10_take_0_ok 16 rfl
theorem dX10_take_32 : decode cX10_take 32 = .ok (.astore_n 3, 1) := dAt tX10_take_0_ok 17 rfl
theorem dX10_take_33 : decode cX10_take 33 = .ok (.aload_n 0, 1) := dAt tX10_take_0_ok 18 rfl
theorem dX10_take_34 : decode cX10_take 34 = .ok (.getfield 22, 3) := dAt tX10_take_0_ok 19 rfl
theorem dX10_take_37 : decode cX10_take 37 = .ok (.iconst 0, 1) := dAt tX10_take_0_ok 20 rfl
theorem dX10_take_38 : decode cX10_take 38 = .ok (.putfield 55, 3) := dAt tX10_take_0_ok 21 rfl
theorem dX10_take_41 : decode cX10_take 41 = .ok (.aload_n 3, 1) := dAt tX10_take_0_ok 22 rfl
theorem dX10_take_42 : decode cX10_take 42 = .ok (.ifnonnull 14, 3) := dAt tX10_take_0_ok 23 rfl
theorem dX10_take_45 : decode cX10_take 45 = .ok (.bipush (-100), 2) := dAt tX10_take_0_ok 24 rfl
theorem dX10_take_47 : decode cX10_take 47 = .ok (.aload_n 0, 1) := dAt tX10_take_0_ok 25 rfl
theorem dX10_take_48 : decode cX10_take 48 = .ok (.getfield 12, 3) := dAt tX10_take_0_ok 26 rfl
theorem dX10_take_51 : decode cX10_take 51 = .ok (.getfield 116, 3) := dAt tX10_take_0_ok 27 rfl
theorem dX10_take_54 : decode cX10_take 54 = .ok (.isub, 1) := dAt tX10_take_0_ok 28 rfl
theorem dX10_take_55 : decode cX10_take 55 = .ok (.ireturn, 1) := dAt tX10_take_0_ok 29 rfl
theorem dX10_take_56 : decode cX10_take 56 = .ok (.aload_n 0, 1) := dAt tX10_take_0_ok 30 rfl
theorem dX10_take_57 : decode cX10_take 57 = .ok (.getfield 51, 3) := dAt tX10_take_0_ok 31 rfl
theorem dX10_take_60 : decode cX10_take 60 = .ok (.invokevirtual 119, 3) := dAt tX10_take_0_ok 32 rfl
theorem dX10_take_63 : decode cX10_take 63 = .ok (.ifCond .eq 6, 3) := dAt tX10_take_0_ok 33 rfl
theorem dX10_take_66 : decode cX10_take 66 = .ok (.bipush (-4), 2) := dAt tX10_take_0_ok 34 rfl
theorem dX10_take_68 : decode cX10_take 68 = .ok (.ireturn, 1) := dAt tX10_take_0_ok 35 rfl
theorem dX10_take_69 : decode cX10_take 69 = .ok (.aload_n 0, 1) := dAt tX10_take_0_ok 36 rfl
theorem dX10_take_70 : decode cX10_take 70 = .ok (.getfield 51, 3) := dAt tX10_take_0_ok 37 rfl
theorem dX10_take_73 : decode cX10_take 73 = .ok (.aload_n 3, 1) := dAt tX10_take_0_ok 38 rfl
theorem dX10_take_74 : decode cX10_take 74 = .ok (.getfield 122, 3) := dAt tX10_take_0_ok 39 rfl
theorem dX10_take_77 : decode cX10_take 77 = .ok (.invokevirtual 128, 3) := dAt tX10_take_0_ok 40 rfl
theorem dX10_take_80 : decode cX10_take 80 = .ok (.ifCond .lt 8, 3) := dAt tX10_take_0_ok 41 rfl
theorem dX10_take_83 : decode cX10_take 83 = .ok (.bipush (-3), 2) := dAt tX10_take_0_ok 42 rfl
theorem dX10_take_85 : decode cX10_take 85 = .ok (.goto 12, 3) := dAt tX10_take_0_ok 43 rfl
theorem dX10_take_88 : decode cX10_take 88 = .ok (.aload_n 0, 1) := dAt tX10_take_0_ok 44 rfl
theorem dX10_take_89 : decode cX10_take 89 = .ok (.getfield 51, 3) := dAt tX10_take_0_ok 45 rfl
theorem dX10_take_92 : decode cX10_take 92 = .ok (.aload_n 3, 1) := dAt tX10_take_0_ok 46 rfl
theorem dX10_take_93 : decode cX10_take 93 = .ok (.iload_n 1, 1) := dAt tX10_take_0_ok 47 rfl
def tX10_take_94 : List (Nat × Instr × Nat) := [(94, .invokevirtual 132, 3), (97, .ireturn, 1)]
theorem tX10_take_94_ok : dAll cX10_take tX10_take_94 = true := by decide +kernel
theorem dX10_take_94 : decode cX10_take 94 = .ok (.invokevirtual 132, 3) := dAt tX10_take_94_ok 0 rfl
theorem dX10_take_97 : decode cX10_take 97 = .ok (.ireturn, 1) := dAt tX10_take_94_ok 1 rfl
def tX10_close_0 : List (Nat × Instr × Nat) := [(0, .aload_n 0, 1), (1, .getfield 51, 3), (4, .iload_n 1, 1), (5, .invokevirtual 63, 3), (8, .astore_n 2, 1), (9, .aload_n 2, 1), (10, .ifnonnull 5, 3), (13, .iconst (-1), 1), (14, .ireturn, 1), (15, .aload_n 2, 1), (16, .getfield 136, 3), (19, .ifCond .eq 8, 3), (22, .bipush (-3), 2), (24, .goto 11, 3), (27, .aload_n 0, 1), (28, .getfield 43, 3), (31, .iload_n 1, 1), (32, .invokevirtual 137, 3), (35, .ireturn, 1)]
theorem tX10_close_0_ok : dAll cX10_close tX10_close_0 = true := by decide +kernel
theorem dX10_close_0 : decode cX10_close 0 = .ok (.aload_n 0, 1) := dAt tX10_close_0_ok 0 rfl
theorem dX10_close_1 : decode cX10_close 1 = .ok (.getfield 51, 3) := dAt tX10_close_0_ok 1 rfl
theorem dX10_close_4 : decode cX10_close 4 = .ok (.iload_n 1, 1) := dAt tX10_close_0_ok 2 rfl
theorem dX10_close_5 : decode cX10_close 5 = .ok (.invokevirtual 63, 3) := dAt tX10_close_0_ok 3 rfl
theorem dX10_close_8 : decode cX10_close 8 = .ok (.astore_n 2, 1) := dAt tX10_close_0_ok 4 rfl
theorem dX10_close_9 : decode cX10_close 9 = .ok (.aload_n 2, 1) := dAt tX10_close_0_ok 5 rfl
theorem dX10_close_10 : decode cX10_close 10 = .ok (.ifnonnull 5, 3) := dAt tX10_close_0_ok 6 rfl
theorem dX10_close_13 : decode cX10_close 13 = .ok (.iconst (-1), 1) := dAt tX10_close_0_ok 7 rfl
theorem dX10_close_14 : decode cX10_close 14 = .ok (.ireturn, 1) := dAt tX10_close_0_ok 8 rfl
theorem dX10_close_15 : decode cX10_close 15 = .ok (.aload_n 2, 1) := dAt tX10_close_0_ok 9 rfl
theorem dX10_close_16 : decode cX10_close 16 = .ok (.getfield 136, 3) := dAt tX10_close_0_ok 10 rfl
theorem dX10_close_19 : decode cX10_close 19 = .ok (.ifCond .eq 8, 3) := dAt tX10_close_0_ok 11 rfl
theorem dX10_close_22 : decode cX10_close 22 = .ok (.bipush (-3), 2) := dAt tX10_close_0_ok 12 rfl
theorem dX10_close_24 : decode cX10_close 24 = .ok (.goto 11, 3) := dAt tX10_close_0_ok 13 rfl
theorem dX10_close_27 : decode cX10_close 27 = .ok (.aload_n 0, 1) := dAt tX10_close_0_ok 14 rfl
theorem dX10_close_28 : decode cX10_close 28 = .ok (.getfield 43, 3) := dAt tX10_close_0_ok 15 rfl
theorem dX10_close_31 : decode cX10_close 31 = .ok (.iload_n 1, 1) := dAt tX10_close_0_ok 16 rfl
theorem dX10_close_32 : decode cX10_close 32 = .ok (.invokevirtual 137, 3) := dAt tX10_close_0_ok 17 rfl
theorem dX10_close_35 : decode cX10_close 35 = .ok (.ireturn, 1) := dAt tX10_close_0_ok 18 rfl
def tX10_shut_0 : List (Nat × Instr × Nat) := [(0, .aload_n 0, 1), (1, .getfield 51, 3), (4, .iload_n 1, 1), (5, .invokevirtual 95, 3), (8, .astore_n 2, 1), (9, .aload_n 2, 1), (10, .ifnonnull 5, 3), (13, .iconst (-1), 1), (14, .ireturn, 1), (15, .aload_n 2, 1), (16, .getfield 99, 3), (19, .ifCond .eq 8, 3), (22, .bipush (-3), 2), (24, .goto 14, 3), (27, .aload_n 0, 1), (28, .getfield 43, 3), (31, .bipush 100, 2), (33, .iload_n 1, 1), (34, .iadd, 1), (35, .invokevirtual 137, 3), (38, .ireturn, 1)]
theorem tX10_shut_0_ok : dAll cX10_shut tX10_shut_0 = true := by decide +kernel
theorem dX10_shut_0 : decode cX10_shut 0 = .ok (.aload_n 0, 1) := dAt tX10_shut_0_ok 0 rfl
theorem dX10_shut_1 : decode cX10_shut 1 = .ok (.getfield 51, 3) := dAt tX10_shut_0_ok 1 rfl
theorem dX10_shut_4 : decode cX10_shut 4 = .ok (.iload_n 1, 1) := dAt tX10_shut_0_ok 2 rfl
theorem dX10_shut_5 : decode cX10_shut 5 = .ok (.invokevirtual 95, 3) := dAt tX10_shut_0_ok 3 rfl
theorem dX10_shut_8 : decode cX10_shut 8 = .ok (.astore_n 2, 1) := dAt tX10_shut_0_ok 4 rfl
theorem dX10_shut_9 : decode cX10_shut 9 = .ok (.aload_n 2, 1) := dAt tX10_shut_0_ok 5 rfl
theorem dX10_shut_10 : decode cX10_shut 10 = .ok (.ifnonnull 5, 3) := dAt tX10_shut_0_ok 6 rfl
theorem dX10_shut_13 : decode cX10_shut 13 = .ok (.iconst (-1), 1) := dAt tX10_shut_0_ok 7 rfl
theorem dX10_shut_14 : decode cX10_shut 14 = .ok (.ireturn, 1) := dAt tX10_shut_0_ok 8 rfl
theorem dX10_shut_15 : decode cX10_shut 15 = .ok (.aload_n 2, 1) := dAt tX10_shut_0_ok 9 rfl
theorem dX10_shut_16 : decode cX10_shut 16 = .ok (.getfield 99, 3) := dAt tX10_shut_0_ok 10 rfl
theorem dX10_shut_19 : decode cX10_shut 19 = .ok (.ifCond .eq 8, 3) := dAt tX10_shut_0_ok 11 rfl
theorem dX10_shut_22 : decode cX10_shut 22 = .ok (.bipush (-3), 2) := dAt tX10_shut_0_ok 12 rfl
theorem dX10_shut_24 : decode cX10_shut 24 = .ok (.goto 14, 3) := dAt tX10_shut_0_ok 13 rfl
theorem dX10_shut_27 : decode cX10_shut 27 = .ok (.aload_n 0, 1) := dAt tX10_shut_0_ok 14 rfl
theorem dX10_shut_28 : decode cX10_shut 28 = .ok (.getfield 43, 3) := dAt tX10_shut_0_ok 15 rfl
theorem dX10_shut_31 : decode cX10_shut 31 = .ok (.bipush 100, 2) := dAt tX10_shut_0_ok 16 rfl
theorem dX10_shut_33 : decode cX10_shut 33 = .ok (.iload_n 1, 1) := dAt tX10_shut_0_ok 17 rfl
theorem dX10_shut_34 : decode cX10_shut 34 = .ok (.iadd, 1) := dAt tX10_shut_0_ok 18 rfl
theorem dX10_shut_35 : decode cX10_shut 35 = .ok (.invokevirtual 137, 3) := dAt tX10_shut_0_ok 19 rfl
theorem dX10_shut_38 : decode cX10_shut 38 = .ok (.ireturn, 1) := dAt tX10_shut_0_ok 20 rfl
def tX10_move_0 : List (Nat × Instr × Nat) := [(0, .aload_n 0, 1), (1, .getfield 51, 3), (4, .iload_n 1, 1), (5, .invokevirtual 63, 3), (8, .astore_n 3, 1), (9, .aload_n 0, 1), (10, .getfield 51, 3), (13, .iload_n 2, 1), (14, .invokevirtual 95, 3), (17, .astore 4, 2), (19, .aload_n 3, 1), (20, .ifnull 8, 3), (23, .aload 4, 2), (25, .ifnonnull 5, 3), (28, .iconst (-1), 1), (29, .ireturn, 1), (30, .aload_n 3, 1), (31, .getfield 136, 3), (34, .ifCond .ne 11, 3), (37, .aload 4, 2), (39, .getfield 99, 3), (42, .ifCond .eq 6, 3), (45, .bipush (-3), 2), (47, .ireturn, 1), (48, .aload_n 0, 1), (49, .getfield 51, 3), (52, .iload_n 1, 1), (53, .iload_n 2, 1), (54, .invokevirtual 140, 3), (57, .aload_n 0, 1), (58, .getfield 51, 3), (61, .iload_n 2, 1), (62, .invokevirtual 144, 3), (65, .ireturn, 1)]
theorem tX10_move_0_ok : dAll cX10_move tX10_move_0 = true := by decide +kernel
theorem dX10_move_0 : decode cX10_move 0 = .ok (.aload_n 0, 1) := dAt tX10_move_0_ok 0 rfl
theorem dX10_move_1 : decode cX10_move 1 = .ok (.getfield 51, 3) := dAt tX10_move_0_ok 1 rfl
theorem dX10_move_4 : decode cX10_move 4 = .ok (.iload_n 1, 1) := dAt tX10_move_0_ok 2 rfl
theorem dX10_move_5 : decode cX10_move 5 = .ok (.invokevirtual 63, 3) := dAt tX10_move_0_ok 3 rfl
theorem dX10_move_8 : decode cX10_move 8 = .ok (.astore_n 3, 1) := dAt tX10_move_0_ok 4 rfl
theorem dX10_move_9 : decode cX10_move 9 = .ok (.aload_n 0, 1) := dAt tX10_move_0_ok 5 rfl
theorem dX10_move_10 : decode cX10_move 10 = .ok (.getfield 51, 3) := dAt tX10_move_0_ok 6 rfl
theorem dX10_move_13 : decode cX10_move 13 = .ok (.iload_n 2, 1) := dAt tX10_move_0_ok 7 rfl
theorem dX10_move_14 : decode cX10_move 14 = .ok (.invokevirtual 95, 3) := dAt tX10_move_0_ok 8 rfl
theorem dX10_move_17 : decode cX10_move 17 = .ok (.astore 4, 2) := dAt tX10_move_0_ok 9 rfl
theorem dX10_move_19 : decode cX10_move 19 = .ok (.aload_n 3, 1) := dAt tX10_move_0_ok 10 rfl
theorem dX10_move_20 : decode cX10_move 20 = .ok (.ifnull 8, 3) := dAt tX10_move_0_ok 11 rfl
theorem dX10_move_23 : decode cX10_move 23 = .ok (.aload 4, 2) := dAt tX10_move_0_ok 12 rfl
theorem dX10_move_25 : decode cX10_move 25 = .ok (.ifnonnull 5, 3) := dAt tX10_move_0_ok 13 rfl
theorem dX10_move_28 : decode cX10_move 28 = .ok (.iconst (-1), 1) := dAt tX10_move_0_ok 14 rfl
theorem dX10_move_29 : decode cX10_move 29 = .ok (.ireturn, 1) := dAt tX10_move_0_ok 15 rfl
theorem dX10_move_30 : decode cX10_move 30 = .ok (.aload_n 3, 1) := dAt tX10_move_0_ok 16 rfl
theorem dX10_move_31 : decode cX10_move 31 = .ok (.getfield 136, 3) := dAt tX10_move_0_ok 17 rfl
theorem dX10_move_34 : decode cX10_move 34 = .ok (.ifCond .ne 11, 3) := dAt tX10_move_0_ok 18 rfl
theorem dX10_move_37 : decode cX10_move 37 = .ok (.aload 4, 2) := dAt tX10_move_0_ok 19 rfl
theorem dX10_move_39 : decode cX10_move 39 = .ok (.getfield 99, 3) := dAt tX10_move_0_ok 20 rfl
theorem dX10_move_42 : decode cX10_move 42 = .ok (.ifCond .eq 6, 3) := dAt tX10_move_0_ok 21 rfl
theorem dX10_move_45 : decode cX10_move 45 = .ok (.bipush (-3), 2) := dAt tX10_move_0_ok 22 rfl
theorem dX10_move_47 : decode cX10_move 47 = .ok (.ireturn, 1) := dAt tX10_move_0_ok 23 rfl
theorem dX10_move_48 : decode cX10_move 48 = .ok (.aload_n 0, 1) := dAt tX10_move_0_ok 24 rfl
theorem dX10_move_49 : decode cX10_move 49 = .ok (.getfield 51, 3) := dAt tX10_move_0_ok 25 rfl
theorem dX10_move_52 : decode cX10_move 52 = .ok (.iload_n 1, 1) := dAt tX10_move_0_ok 26 rfl
theorem dX10_move_53 : decode cX10_move 53 = .ok (.iload_n 2, 1) := dAt tX10_move_0_ok 27 rfl
theorem dX10_move_54 : decode cX10_move 54 = .ok (.invokevirtual 140, 3) := dAt tX10_move_0_ok 28 rfl
theorem dX10_move_57 : decode cX10_move 57 = .ok (.aload_n 0, 1) := dAt tX10_move_0_ok 29 rfl
theorem dX10_move_58 : decode cX10_move 58 = .ok (.getfield 51, 3) := dAt tX10_move_0_ok 30 rfl
theorem dX10_move_61 : decode cX10_move 61 = .ok (.iload_n 2, 1) := dAt tX10_move_0_ok 31 rfl
theorem dX10_move_62 : decode cX10_move 62 = .ok (.invokevirtual 144, 3) := dAt tX10_move_0_ok 32 rfl
theorem dX10_move_65 : decode cX10_move 65 = .ok (.ireturn, 1) := dAt tX10_move_0_ok 33 rfl
def tX10_count_0 : List (Nat × Instr × Nat) := [(0, .aload_n 0, 1), (1, .getfield 51, 3), (4, .getfield 147, 3), (7, .iload_n 1, 1), (8, .invokevirtual 88, 3), (11, .ifCond .ne 5, 3), (14, .iconst (-1), 1), (15, .ireturn, 1), (16, .aload_n 0, 1), (17, .getfield 51, 3), (20, .getfield 147, 3), (23, .iload_n 1, 1), (24, .aload_n 0, 1), (25, .getfield 51, 3), (28, .getfield 147, 3), (31, .iload_n 1, 1), (32, .invokevirtual 91, 3), (35, .iload_n 2, 1), (36, .iadd, 1), (37, .invokevirtual 150, 3), (40, .aload_n 0, 1), (41, .getfield 51, 3), (44, .getfield 147, 3), (47, .iload_n 1, 1), (48, .invokevirtual 91, 3), (51, .ireturn, 1)]
theorem tX10_count_0_ok : dAll cX10_count tX10_count_0 = true := by decide +kernel
theorem dX10_count_0 : decode cX10_count 0 = .ok (.aload_n 0, 1) := dAt tX10_count_0_ok 0 rfl
theorem dX10_count_1 : decode cX10_count 1 = .ok (.getfield 51, 3) := dAt tX10_count_0_ok 1 rfl
theorem dX10_count_4 : decode cX10_count 4 = .ok (.getfield 147, 3) := dAt tX10_count_0_ok 2 rfl
theorem dX10_count_7 : decode cX10_count 7 = .ok (.iload_n 1, 1) := dAt tX10_count_0_ok 3 rfl
theorem dX10_count_8 : decode cX10_count 8 = .ok (.invokevirtual 88, 3) := dAt tX10_count_0_ok 4 rfl
theorem dX10_count_11 : decode cX10_count 11 = .ok (.ifCond .ne 5, 3) := dAt tX10_count_0_ok 5 rfl
theorem dX10_count_14 : decode cX10_count 14 = .ok (.iconst (-1), 1) := dAt tX10_count_0_ok 6 rfl
theorem dX10_count_15 : decode cX10_count 15 = .ok (.ireturn, 1) := dAt tX10_count_0_ok 7 rfl
theorem dX10_count_16 : decode cX10_count 16 = .ok (.aload_n 0, 1) := dAt tX10_count_0_ok 8 rfl
theorem dX10_count_17 : decode cX10_count 17 = .ok (.getfield 51, 3) := dAt tX10_count_0_ok 9 rfl
theorem dX10_count_20 : decode cX10_count 20 = .ok (.getfield 147, 3) := dAt tX10_count_0_ok 10 rfl
theorem dX10_count_23 : decode cX10_count 23 = .ok (.iload_n 1, 1) := dAt tX10_count_0_ok 11 rfl
theorem dX10_count_24 : decode cX10_count 24 = .ok (.aload_n 0, 1) := dAt tX10_count_0_ok 12 rfl
theorem dX10_count_25 : decode cX10_count 25 = .ok (.getfield 51, 3) := dAt tX10_count_0_ok 13 rfl
theorem dX10_count_28 : decode cX10_count 28 = .ok (.getfield 147, 3) := dAt tX10_count_0_ok 14 rfl
theorem dX10_count_31 : decode cX10_count 31 = .ok (.iload_n 1, 1) := dAt tX10_count_0_ok 15 rfl
theorem dX10_count_32 : decode cX10_count 32 = .ok (.invokevirtual 91, 3) := dAt tX10_count_0_ok 16 rfl
theorem dX10_count_35 : decode cX10_count 35 = .ok (.iload_n 2, 1) := dAt tX10_count_0_ok 17 rfl
theorem dX10_count_36 : decode cX10_count 36 = .ok (.iadd, 1) := dAt tX10_count_0_ok 18 rfl
theorem dX10_count_37 : decode cX10_count 37 = .ok (.invokevirtual 150, 3) := dAt tX10_count_0_ok 19 rfl
theorem dX10_count_40 : decode cX10_count 40 = .ok (.aload_n 0, 1) := dAt tX10_count_0_ok 20 rfl
theorem dX10_count_41 : decode cX10_count 41 = .ok (.getfield 51, 3) := dAt tX10_count_0_ok 21 rfl
theorem dX10_count_44 : decode cX10_count 44 = .ok (.getfield 147, 3) := dAt tX10_count_0_ok 22 rfl
theorem dX10_count_47 : decode cX10_count 47 = .ok (.iload_n 1, 1) := dAt tX10_count_0_ok 23 rfl
theorem dX10_count_48 : decode cX10_count 48 = .ok (.invokevirtual 91, 3) := dAt tX10_count_0_ok 24 rfl
theorem dX10_count_51 : decode cX10_count 51 = .ok (.ireturn, 1) := dAt tX10_count_0_ok 25 rfl
def tX10_counter_0 : List (Nat × Instr × Nat) := [(0, .aload_n 0, 1), (1, .getfield 51, 3), (4, .getfield 147, 3), (7, .iload_n 1, 1), (8, .invokevirtual 88, 3), (11, .ifCond .eq 18, 3), (14, .aload_n 0, 1), (15, .getfield 51, 3), (18, .getfield 147, 3), (21, .iload_n 1, 1), (22, .invokevirtual 91, 3), (25, .i2l, 1), (26, .goto 6, 3), (29, .ldc2_w 153, 3), (32, .lreturn, 1)]
theorem tX10_counter_0_ok : dAll cX10_counter tX10_counter_0 = true := by decide +kernel
theorem dX10_counter_0 : decode cX10_counter 0 = .ok (.aload_n 0, 1) := dAt tX10_counter_0_ok 0 rfl
theorem dX10_counter_1 : decode cX10_counter 1 = .ok (.getfield 51, 3) := dAt tX10_counter_0_ok 1 rfl
theorem dX10_counter_4 : decode cX10_counter 4 = .ok (.getfield 147, 3) := dAt tX10_counter_0_ok 2 rfl
theorem dX10_counter_7 : decode cX10_counter 7 = .ok (.iload_n 1, 1) := dAt tX10_counter_0_ok 3 rfl
theorem dX10_counter_8 : decode cX10_counter 8 = .ok (.invokevirtual 88, 3) := dAt tX10_counter_0_ok 4 rfl
theorem dX10_counter_11 : decode cX10_counter 11 = .ok (.ifCond .eq 18, 3) := dAt tX10_counter_0_ok 5 rfl
theorem dX10_counter_14 : decode cX10_counter 14 = .ok (.aload_n 0, 1) := dAt tX10_counter_0_ok 6 rfl
theorem dX10_counter_15 : decode cX10_counter 15 = .ok (.getfield 51, 3) := dAt tX10_counter_0_ok 7 rfl
theorem dX10_counter_18 : decode cX10_counter 18 = .ok (.getfield 147, 3) := dAt tX10_counter_0_ok 8 rfl
theorem dX10_counter_21 : decode cX10_counter 21 = .ok (.iload_n 1, 1) := dAt tX10_counter_0_ok 9 rfl
theorem dX10_counter_22 : decode cX10_counter 22 = .ok (.invokevirtual 91, 3) := dAt tX10_counter_0_ok 10 rfl
theorem dX10_counter_25 : decode cX10_counter 25 = .ok (.i2l, 1) := dAt tX10_counter_0_ok 11 rfl
theorem dX10_counter_26 : decode cX10_counter 26 = .ok (.goto 6, 3) := dAt tX10_counter_0_ok 12 rfl
theorem dX10_counter_29 : decode cX10_counter 29 = .ok (.ldc2_w 153, 3) := dAt tX10_counter_0_ok 13 rfl
theorem dX10_counter_32 : decode cX10_counter 32 = .ok (.lreturn, 1) := dAt tX10_counter_0_ok 14 rfl
def tX10_scope_0 : List (Nat × Instr × Nat) := [(0, .aload_n 0, 1), (1, .getfield 51, 3), (4, .iload_n 1, 1), (5, .invokevirtual 95, 3), (8, .astore_n 3, 1), (9, .aload_n 3, 1), (10, .ifnonnull 5, 3), (13, .iconst (-1), 1), (14, .ireturn, 1), (15, .iload_n 2, 1), (16, .tableswitch 82 0 5 #[40, 45, 50, 59, 68, 77], 40), (56, .aload_n 3, 1), (57, .getfield 99, 3), (60, .ireturn, 1), (61, .aload_n 3, 1), (62, .getfield 155, 3), (65, .ireturn, 1), (66, .aload_n 0, 1), (67, .getfield 51, 3), (70, .iload_n 1, 1), (71, .invokevirtual 144, 3), (74, .ireturn, 1), (75, .aload_n 0, 1), (76, .getfield 51, 3), (79, .iload_n 1, 1), (80, .invokevirtual 158, 3), (83, .ireturn, 1), (84, .aload_n 0, 1), (85, .getfield 51, 3), (88, .iload_n 1, 1), (89, .invokevirtual 161, 3), (92, .ireturn, 1), (93, .aload_n 3, 1), (94, .getfield 164, 3), (97, .ireturn, 1), (98, .iconst (-1), 1), (99, .ireturn, 1)]
theorem tX10_scope_0_ok : dAll cX10_scope tX10_scope_0 = true := by decide +kernel
theorem dX10_scope_0 : decode cX10_scope 0 = .ok (.aload_n 0, 1) := dAt tX10_scope_0_ok 0 rfl
theorem dX10_scope_1 : decode cX10_scope 1 = .ok (.getfield 51, 3) := dAt tX10_scope_0_ok 1 rfl
theorem dX10_scope_4 : decode cX10_scope 4 = .ok (.iload_n 1, 1) := dAt tX10_scope_0_ok 2 rfl
theorem dX10_scope_5 : decode cX10_scope 5 = .ok (.invokevirtual 95, 3) := dAt tX10_scope_0_ok 3 rfl
theorem dX10_scope_8 : decode cX10_scope 8 = .ok (.astore_n 3, 1) := dAt tX10_scope_0_ok 4 rfl
theorem dX10_scope_9 : decode cX10_scope 9 = .ok (.aload_n 3, 1) := dAt tX10_scope_0_ok 5 rfl
theorem dX10_scope_10 : decode cX10_scope 10 = .ok (.ifnonnull 5, 3) := dAt tX10_scope_0_ok 6 rfl
theorem dX10_scope_13 : decode cX10_scope 13 = .ok (.iconst (-1), 1) := dAt tX10_scope_0_ok 7 rfl
theorem dX10_scope_14 : decode cX10_scope 14 = .ok (.ireturn, 1) := dAt tX10_scope_0_ok 8 rfl
theorem dX10_scope_15 : decode cX10_scope 15 = .ok (.iload_n 2, 1) := dAt tX10_scope_0_ok 9 rfl
theorem dX10_scope_16 : decode cX10_scope 16 = .ok (.tableswitch 82 0 5 #[40, 45, 50, 59, 68, 77], 40) := dAt tX10_scope_0_ok 10 rfl
theorem dX10_scope_56 : decode cX10_scope 56 = .ok (.aload_n 3, 1) := dAt tX10_scope_0_ok 11 rfl
theorem dX10_scope_57 : decode cX10_scope 57 = .ok (.getfield 99, 3) := dAt tX10_scope_0_ok 12 rfl
theorem dX10_scope_60 : decode cX10_scope 60 = .ok (.ireturn, 1) := dAt tX10_scope_0_ok 13 rfl
theorem dX10_scope_61 : decode cX10_scope 61 = .ok (.aload_n 3, 1) := dAt tX10_scope_0_ok 14 rfl
theorem dX10_scope_62 : decode cX10_scope 62 = .ok (.getfield 155, 3) := dAt tX10_scope_0_ok 15 rfl
theorem dX10_scope_65 : decode cX10_scope 65 = .ok (.ireturn, 1) := dAt tX10_scope_0_ok 16 rfl
theorem dX10_scope_66 : decode cX10_scope 66 = .ok (.aload_n 0, 1) := dAt tX10_scope_0_ok 17 rfl
theorem dX10_scope_67 : decode cX10_scope 67 = .ok (.getfield 51, 3) := dAt tX10_scope_0_ok 18 rfl
theorem dX10_scope_70 : decode cX10_scope 70 = .ok (.iload_n 1, 1) := dAt tX10_scope_0_ok 19 rfl
theorem dX10_scope_71 : decode cX10_scope 71 = .ok (.invokevirtual 144, 3) := dAt tX10_scope_0_ok 20 rfl
theorem dX10_scope_74 : decode cX10_scope 74 = .ok (.ireturn, 1) := dAt tX10_scope_0_ok 21 rfl
theorem dX10_scope_75 : decode cX10_scope 75 = .ok (.aload_n 0, 1) := dAt tX10_scope_0_ok 22 rfl
theorem dX10_scope_76 : decode cX10_scope 76 = .ok (.getfield 51, 3) := dAt tX10_scope_0_ok 23 rfl
theorem dX10_scope_79 : decode cX10_scope 79 = .ok (.iload_n 1, 1) := dAt tX10_scope_0_ok 24 rfl
theorem dX10_scope_80 : decode cX10_scope 80 = .ok (.invokevirtual 158, 3) := dAt tX10_scope_0_ok 25 rfl
theorem dX10_scope_83 : decode cX10_scope 83 = .ok (.ireturn, 1) := dAt tX10_scope_0_ok 26 rfl
theorem dX10_scope_84 : decode cX10_scope 84 = .ok (.aload_n 0, 1) := dAt tX10_scope_0_ok 27 rfl
theorem dX10_scope_85 : decode cX10_scope 85 = .ok (.getfield 51, 3) := dAt tX10_scope_0_ok 28 rfl
theorem dX10_scope_88 : decode cX10_scope 88 = .ok (.iload_n 1, 1) := dAt tX10_scope_0_ok 29 rfl
theorem dX10_scope_89 : decode cX10_scope 89 = .ok (.invokevirtual 161, 3) := dAt tX10_scope_0_ok 30 rfl
theorem dX10_scope_92 : decode cX10_scope 92 = .ok (.ireturn, 1) := dAt tX10_scope_0_ok 31 rfl
theorem dX10_scope_93 : decode cX10_scope 93 = .ok (.aload_n 3, 1) := dAt tX10_scope_0_ok 32 rfl
theorem dX10_scope_94 : decode cX10_scope 94 = .ok (.getfield 164, 3) := dAt tX10_scope_0_ok 33 rfl
theorem dX10_scope_97 : decode cX10_scope 97 = .ok (.ireturn, 1) := dAt tX10_scope_0_ok 34 rfl
theorem dX10_scope_98 : decode cX10_scope 98 = .ok (.iconst (-1), 1) := dAt tX10_scope_0_ok 35 rfl
theorem dX10_scope_99 : decode cX10_scope 99 = .ok (.ireturn, 1) := dAt tX10_scope_0_ok 36 rfl
def tX10_below_0 : List (Nat × Instr × Nat) := [(0, .aload_n 0, 1), (1, .getfield 51, 3), (4, .iload_n 1, 1), (5, .invokevirtual 95, 3), (8, .ifnull 14, 3), (11, .aload_n 0, 1), (12, .getfield 51, 3), (15, .iload_n 2, 1), (16, .invokevirtual 95, 3), (19, .ifnonnull 5, 3), (22, .iconst (-1), 1), (23, .ireturn, 1), (24, .aload_n 0, 1), (25, .getfield 51, 3), (28, .iload_n 1, 1), (29, .iload_n 2, 1), (30, .invokevirtual 167, 3), (33, .ifCond .eq 7, 3), (36, .iconst 1, 1), (37, .goto 4, 3), (40, .iconst 0, 1), (41, .ireturn, 1)]
theorem tX10_below_0_ok : dAll cX10_below tX10_below_0 = true := by decide +kernel
theorem dX10_below_0 : decode cX10_below 0 = .ok (.aload_n 0, 1) := dAt tX10_below_0_ok 0 rfl
theorem dX10_below_1 : decode cX10_below 1 = .ok (.getfield 51, 3) := dAt tX10_below_0_ok 1 rfl
theorem dX10_below_4 : decode cX10_below 4 = .ok (.iload_n 1, 1) := dAt tX10_below_0_ok 2 rfl
theorem dX10_below_5 : decode cX10_below 5 = .ok (.invokevirtual 95, 3) := dAt tX10_below_0_ok 3 rfl
theorem dX10_below_8 : decode cX10_below 8 = .ok (.ifnull 14, 3) := dAt tX10_below_0_ok 4 rfl
theorem dX10_below_11 : decode cX10_below 11 = .ok (.aload_n 0, 1) := dAt tX10_below_0_ok 5 rfl
theorem dX10_below_12 : decode cX10_below 12 = .ok (.getfield 51, 3) := dAt tX10_below_0_ok 6 rfl
theorem dX10_below_15 : decode cX10_below 15 = .ok (.iload_n 2, 1) := dAt tX10_below_0_ok 7 rfl
theorem dX10_below_16 : decode cX10_below 16 = .ok (.invokevirtual 95, 3) := dAt tX10_below_0_ok 8 rfl
theorem dX10_below_19 : decode cX10_below 19 = .ok (.ifnonnull 5, 3) := dAt tX10_below_0_ok 9 rfl
theorem dX10_below_22 : decode cX10_below 22 = .ok (.iconst (-1), 1) := dAt tX10_below_0_ok 10 rfl
theorem dX10_below_23 : decode cX10_below 23 = .ok (.ireturn, 1) := dAt tX10_below_0_ok 11 rfl
theorem dX10_below_24 : decode cX10_below 24 = .ok (.aload_n 0, 1) := dAt tX10_below_0_ok 12 rfl
theorem dX10_below_25 : decode cX10_below 25 = .ok (.getfield 51, 3) := dAt tX10_below_0_ok 13 rfl
theorem dX10_below_28 : decode cX10_below 28 = .ok (.iload_n 1, 1) := dAt tX10_below_0_ok 14 rfl
theorem dX10_below_29 : decode cX10_below 29 = .ok (.iload_n 2, 1) := dAt tX10_below_0_ok 15 rfl
theorem dX10_below_30 : decode cX10_below 30 = .ok (.invokevirtual 167, 3) := dAt tX10_below_0_ok 16 rfl
theorem dX10_below_33 : decode cX10_below 33 = .ok (.ifCond .eq 7, 3) := dAt tX10_below_0_ok 17 rfl
theorem dX10_below_36 : decode cX10_below 36 = .ok (.iconst 1, 1) := dAt tX10_below_0_ok 18 rfl
theorem dX10_below_37 : decode cX10_below 37 = .ok (.goto 4, 3) := dAt tX10_below_0_ok 19 rfl
theorem dX10_below_40 : decode cX10_below 40 = .ok (.iconst 0, 1) := dAt tX10_below_0_ok 20 rfl
theorem dX10_below_41 : decode cX10_below 41 = .ok (.ireturn, 1) := dAt tX10_below_0_ok 21 rfl
def tX10_youngest_0 : List (Nat × Instr × Nat) := [(0, .aload_n 0, 1), (1, .getfield 51, 3), (4, .iload_n 1, 1), (5, .invokevirtual 95, 3), (8, .ifnonnull 7, 3), (11, .iconst (-1), 1), (12, .goto 11, 3), (15, .aload_n 0, 1), (16, .getfield 51, 3), (19, .iload_n 1, 1), (20, .invokevirtual 171, 3), (23, .ireturn, 1)]
theorem tX10_youngest_0_ok : dAll cX10_youngest tX10_youngest_0 = true := by decide +kernel
theorem dX10_youngest_0 : decode cX10_youngest 0 = .ok (.aload_n 0, 1) := dAt tX10_youngest_0_ok 0 rfl
theorem dX10_youngest_1 : decode cX10_youngest 1 = .ok (.getfield 51, 3) := dAt tX10_youngest_0_ok 1 rfl
theorem dX10_youngest_4 : decode cX10_youngest 4 = .ok (.iload_n 1, 1) := dAt tX10_youngest_0_ok 2 rfl
theorem dX10_youngest_5 : decode cX10_youngest 5 = .ok (.invokevirtual 95, 3) := dAt tX10_youngest_0_ok 3 rfl
theorem dX10_youngest_8 : decode cX10_youngest 8 = .ok (.ifnonnull 7, 3) := dAt tX10_youngest_0_ok 4 rfl
theorem dX10_youngest_11 : decode cX10_youngest 11 = .ok (.iconst (-1), 1) := dAt tX10_youngest_0_ok 5 rfl
theorem dX10_youngest_12 : decode cX10_youngest 12 = .ok (.goto 11, 3) := dAt tX10_youngest_0_ok 6 rfl
theorem dX10_youngest_15 : decode cX10_youngest 15 = .ok (.aload_n 0, 1) := dAt tX10_youngest_0_ok 7 rfl
theorem dX10_youngest_16 : decode cX10_youngest 16 = .ok (.getfield 51, 3) := dAt tX10_youngest_0_ok 8 rfl
theorem dX10_youngest_19 : decode cX10_youngest 19 = .ok (.iload_n 1, 1) := dAt tX10_youngest_0_ok 9 rfl
theorem dX10_youngest_20 : decode cX10_youngest 20 = .ok (.invokevirtual 171, 3) := dAt tX10_youngest_0_ok 10 rfl
theorem dX10_youngest_23 : decode cX10_youngest 23 = .ok (.ireturn, 1) := dAt tX10_youngest_0_ok 11 rfl
def tX10_entry_0 : List (Nat × Instr × Nat) := [(0, .aload_n 0, 1), (1, .getfield 51, 3), (4, .iload_n 1, 1), (5, .invokevirtual 95, 3), (8, .ifnonnull 7, 3), (11, .iconst (-1), 1), (12, .goto 12, 3), (15, .aload_n 0, 1), (16, .getfield 51, 3), (19, .iload_n 1, 1), (20, .iload_n 2, 1), (21, .invokevirtual 174, 3), (24, .ireturn, 1)]
theorem tX10_entry_0_ok : dAll cX10_entry tX10_entry_0 = true := by decide +kernel
theorem dX10_entry_0 : decode cX10_entry 0 = .ok (.aload_n 0, 1) := dAt tX10_entry_0_ok 0 rfl
theorem dX10_entry_1 : decode cX10_entry 1 = .ok (.getfield 51, 3) := dAt tX10_entry_0_ok 1 rfl
theorem dX10_entry_4 : decode cX10_entry 4 = .ok (.iload_n 1, 1) := dAt tX10_entry_0_ok 2 rfl
theorem dX10_entry_5 : decode cX10_entry 5 = .ok (.invokevirtual 95, 3) := dAt tX10_entry_0_ok 3 rfl
theorem dX10_entry_8 : decode cX10_entry 8 = .ok (.ifnonnull 7, 3) := dAt tX10_entry_0_ok 4 rfl
theorem dX10_entry_11 : decode cX10_entry 11 = .ok (.iconst (-1), 1) := dAt tX10_entry_0_ok 5 rfl
theorem dX10_entry_12 : decode cX10_entry 12 = .ok (.goto 12, 3) := dAt tX10_entry_0_ok 6 rfl
theorem dX10_entry_15 : decode cX10_entry 15 = .ok (.aload_n 0, 1) := dAt tX10_entry_0_ok 7 rfl
theorem dX10_entry_16 : decode cX10_entry 16 = .ok (.getfield 51, 3) := dAt tX10_entry_0_ok 8 rfl
theorem dX10_entry_19 : decode cX10_entry 19 = .ok (.iload_n 1, 1) := dAt tX10_entry_0_ok 9 rfl
theorem dX10_entry_20 : decode cX10_entry 20 = .ok (.iload_n 2, 1) := dAt tX10_entry_0_ok 10 rfl
theorem dX10_entry_21 : decode cX10_entry 21 = .ok (.invokevirtual 174, 3) := dAt tX10_entry_0_ok 11 rfl
theorem dX10_entry_24 : decode cX10_entry 24 = .ok (.ireturn, 1) := dAt tX10_entry_0_ok 12 rfl
def tX10_thing_0 : List (Nat × Instr × Nat) := [(0, .aload_n 0, 1), (1, .getfield 51, 3), (4, .iload_n 1, 1), (5, .invokevirtual 63, 3), (8, .astore_n 3, 1), (9, .aload_n 3, 1), (10, .ifnonnull 5, 3), (13, .iconst (-1), 1), (14, .ireturn, 1), (15, .iload_n 2, 1), (16, .tableswitch 55 0 3 #[32, 37, 42, 47], 32), (48, .aload_n 3, 1), (49, .getfield 136, 3), (52, .ireturn, 1), (53, .aload_n 3, 1), (54, .getfield 177, 3), (57, .ireturn, 1), (58, .aload_n 3, 1), (59, .getfield 180, 3), (62, .ireturn, 1), (63, .aload_n 3, 1), (64, .getfield 69, 3), (67, .invokestatic 183, 3), (70, .ireturn, 1), (71, .iconst (-1), 1), (72, .ireturn, 1)]
theorem tX10_thing_0_ok : dAll cX10_thing tX10_thing_0 = true := by decide +kernel
theorem dX10_thing_0 : decode cX10_thing 0 = .ok (.aload_n 0, 1) := dAt tX10_thing_0_ok 0 rfl
theorem dX10_thing_1 : decode cX10_thing 1 = .ok (.getfield 51, 3) := dAt tX10_thing_0_ok 1 rfl
theorem dX10_thing_4 : decode cX10_thing 4 = .ok (.iload_n 1, 1) := dAt tX10_thing_0_ok 2 rfl
theorem dX10_thing_5 : decode cX10_thing 5 = .ok (.invokevirtual 63, 3) := dAt tX10_thing_0_ok 3 rfl
theorem dX10_thing_8 : decode cX10_thing 8 = .ok (.astore_n 3, 1) := dAt tX10_thing_0_ok 4 rfl
theorem dX10_thing_9 : decode cX10_thing 9 = .ok (.aload_n 3, 1) := dAt tX10_thing_0_ok 5 rfl
theorem dX10_thing_10 : decode cX10_thing 10 = .ok (.ifnonnull 5, 3) := dAt tX10_thing_0_ok 6 rfl
theorem dX10_thing_13 : decode cX10_thing 13 = .ok (.iconst (-1), 1) := dAt tX10_thing_0_ok 7 rfl
theorem dX10_thing_14 : decode cX10_thing 14 = .ok (.ireturn, 1) := dAt tX10_thing_0_ok 8 rfl
theorem dX10_thing_15 : decode cX10_thing 15 = .ok (.iload_n 2, 1) := dAt tX10_thing_0_ok 9 rfl
theorem dX10_thing_16 : decode cX10_thing 16 = .ok (.tableswitch 55 0 3 #[32, 37, 42, 47], 32) := dAt tX10_thing_0_ok 10 rfl
theorem dX10_thing_48 : decode cX10_thing 48 = .ok (.aload_n 3, 1) := dAt tX10_thing_0_ok 11 rfl
theorem dX10_thing_49 : decode cX10_thing 49 = .ok (.getfield 136, 3) := dAt tX10_thing_0_ok 12 rfl
theorem dX10_thing_52 : decode cX10_thing 52 = .ok (.ireturn, 1) := dAt tX10_thing_0_ok 13 rfl
theorem dX10_thing_53 : decode cX10_thing 53 = .ok (.aload_n 3, 1) := dAt tX10_thing_0_ok 14 rfl
theorem dX10_thing_54 : decode cX10_thing 54 = .ok (.getfield 177, 3) := dAt tX10_thing_0_ok 15 rfl
theorem dX10_thing_57 : decode cX10_thing 57 = .ok (.ireturn, 1) := dAt tX10_thing_0_ok 16 rfl
theorem dX10_thing_58 : decode cX10_thing 58 = .ok (.aload_n 3, 1) := dAt tX10_thing_0_ok 17 rfl
theorem dX10_thing_59 : decode cX10_thing 59 = .ok (.getfield 180, 3) := dAt tX10_thing_0_ok 18 rfl
theorem dX10_thing_62 : decode cX10_thing 62 = .ok (.ireturn, 1) := dAt tX10_thing_0_ok 19 rfl
theorem dX10_thing_63 : decode cX10_thing 63 = .ok (.aload_n 3, 1) := dAt tX10_thing_0_ok 20 rfl
theorem dX10_thing_64 : decode cX10_thing 64 = .ok (.getfield 69, 3) := dAt tX10_thing_0_ok 21 rfl
theorem dX10_thing_67 : decode cX10_thing 67 = .ok (.invokestatic 183, 3) := dAt tX10_thing_0_ok 22 rfl
theorem dX10_thing_70 : decode cX10_thing 70 = .ok (.ireturn, 1) := dAt tX10_thing_0_ok 23 rfl
theorem dX10_thing_71 : decode cX10_thing 71 = .ok (.iconst (-1), 1) := dAt tX10_thing_0_ok 24 rfl
theorem dX10_thing_72 : decode cX10_thing 72 = .ok (.ireturn, 1) := dAt tX10_thing_0_ok 25 rfl
def tX10_name_0 : List (Nat × Instr × Nat) := [(0, .aload_n 0, 1), (1, .getfield 51, 3), (4, .iload_n 1, 1), (5, .invokevirtual 63, 3), (8, .astore_n 3, 1), (9, .aload_n 3, 1), (10, .ifnonnull 5, 3), (13, .iconst (-1), 1), (14, .ireturn, 1), (15, .iload_n 2, 1), (16, .iconst (-1), 1), (17, .if_icmp .ne 11, 3), (20, .aload_n 3, 1), (21, .getfield 186, 3), (24, .invokestatic 187, 3), (27, .ireturn, 1), (28, .aload_n 3, 1), (29, .getfield 186, 3), (32, .iload_n 2, 1), (33, .invokestatic 190, 3), (36, .istore 4, 2), (38, .iload 4, 2), (40, .ifCond .ne 7, 3), (43, .iconst (-1), 1), (44, .goto 5, 3), (47, .iload 4, 2), (49, .ireturn, 1)]
theorem tX10_name_0_ok : dAll cX10_name tX10_name_0 = true := by decide +kernel
theorem dX10_name_0 : decode cX10_name 0 = .ok (.aload_n 0, 1) := dAt tX10_name_0_ok 0 rfl
theorem dX10_name_1 : decode cX10_name 1 = .ok (.getfield 51, 3) := dAt tX10_name_0_ok 1 rfl
theorem dX10_name_4 : decode cX10_name 4 = .ok (.iload_n 1, 1) := dAt tX10_name_0_ok 2 rfl
theorem dX10_name_5 : decode cX10_name 5 = .ok (.invokevirtual 63, 3) := dAt tX10_name_0_ok 3 rfl
theorem dX10_name_8 : decode cX10_name 8 = .ok (.astore_n 3, 1) := dAt tX10_name_0_ok 4 rfl
theorem dX10_name_9 : decode cX10_name 9 = .ok (.aload_n 3, 1) := dAt tX10_name_0_ok 5 rfl
theorem dX10_name_10 : decode cX10_name 10 = .ok (.ifnonnull 5, 3) := dAt tX10_name_0_ok 6 rfl
theorem dX10_name_13 : decode cX10_name 13 = .ok (.iconst (-1), 1) := dAt tX10_name_0_ok 7 rfl
theorem dX10_name_14 : decode cX10_name 14 = .ok (.ireturn, 1) := dAt tX10_name_0_ok 8 rfl
theorem dX10_name_15 : decode cX10_name 15 = .ok (.iload_n 2, 1) := dAt tX10_name_0_ok 9 rfl
theorem dX10_name_16 : decode cX10_name 16 = .ok (.iconst (-1), 1) := dAt tX10_name_0_ok 10 rfl
theorem dX10_name_17 : decode cX10_name 17 = .ok (.if_icmp .ne 11, 3) := dAt tX10_name_0_ok 11 rfl
theorem dX10_name_20 : decode cX10_name 20 = .ok (.aload_n 3, 1) := dAt tX10_name_0_ok 12 rfl
theorem dX10_name_21 : decode cX10_name 21 = .ok (.getfield 186, 3) := dAt tX10_name_0_ok 13 rfl
theorem dX10_name_24 : decode cX10_name 24 = .ok (.invokestatic 187, 3) := dAt tX10_name_0_ok 14 rfl
theorem dX10_name_27 : decode cX10_name 27 = .ok (.ireturn, 1) := dAt tX10_name_0_ok 15 rfl
theorem dX10_name_28 : decode cX10_name 28 = .ok (.aload_n 3, 1) := dAt tX10_name_0_ok 16 rfl
theorem dX10_name_29 : decode cX10_name 29 = .ok (.getfield 186, 3) := dAt tX10_name_0_ok 17 rfl
theorem dX10_name_32 : decode cX10_name 32 = .ok (.iload_n 2, 1) := dAt tX10_name_0_ok 18 rfl
theorem dX10_name_33 : decode cX10_name 33 = .ok (.invokestatic 190, 3) := dAt tX10_name_0_ok 19 rfl
theorem dX10_name_36 : decode cX10_name 36 = .ok (.istore 4, 2) := dAt tX10_name_0_ok 20 rfl
theorem dX10_name_38 : decode cX10_name 38 = .ok (.iload 4, 2) := dAt tX10_name_0_ok 21 rfl
theorem dX10_name_40 : decode cX10_name 40 = .ok (.ifCond .ne 7, 3) := dAt tX10_name_0_ok 22 rfl
theorem dX10_name_43 : decode cX10_name 43 = .ok (.iconst (-1), 1) := dAt tX10_name_0_ok 23 rfl
theorem dX10_name_44 : decode cX10_name 44 = .ok (.goto 5, 3) := dAt tX10_name_0_ok 24 rfl
theorem dX10_name_47 : decode cX10_name 47 = .ok (.iload 4, 2) := dAt tX10_name_0_ok 25 rfl
theorem dX10_name_49 : decode cX10_name 49 = .ok (.ireturn, 1) := dAt tX10_name_0_ok 26 rfl
def tX10_find_0 : List (Nat × Instr × Nat) := [(0, .aload_n 0, 1), (1, .getfield 12, 3), (4, .invokevirtual 194, 3), (7, .lstore_n 1, 1), (8, .aload_n 0, 1), (9, .getfield 22, 3), (12, .iconst 0, 1), (13, .putfield 55, 3), (16, .aload_n 0, 1), (17, .getfield 12, 3), (20, .getfield 116, 3), (23, .ifCond .lt 8, 3), (26, .bipush (-5), 2), (28, .goto 11, 3), (31, .aload_n 0, 1), (32, .getfield 51, 3), (35, .lload_n 1, 1), (36, .invokevirtual 128, 3), (39, .ireturn, 1)]
theorem tX10_find_0_ok : dAll cX10_find tX10_find_0 = true := by decide +kernel
theorem dX10_find_0 : decode cX10_find 0 = .ok (.aload_n 0, 1) := dAt tX10_find_0_ok 0 rfl
theorem dX10_find_1 : decode cX10_find 1 = .ok (.getfield 12, 3) := dAt tX10_find_0_ok 1 rfl
theorem dX10_find_4 : decode cX10_find 4 = .ok (.invokevirtual 194, 3) := dAt tX10_find_0_ok 2 rfl
theorem dX10_find_7 : decode cX10_find 7 = .ok (.lstore_n 1, 1) := dAt tX10_find_0_ok 3 rfl
theorem dX10_find_8 : decode cX10_find 8 = .ok (.aload_n 0, 1) := dAt tX10_find_0_ok 4 rfl
theorem dX10_find_9 : decode cX10_find 9 = .ok (.getfield 22, 3) := dAt tX10_find_0_ok 5 rfl
theorem dX10_find_12 : decode cX10_find 12 = .ok (.iconst 0, 1) := dAt tX10_find_0_ok 6 rfl
theorem dX10_find_13 : decode cX10_find 13 = .ok (.putfield 55, 3) := dAt tX10_find_0_ok 7 rfl
theorem dX10_find_16 : decode cX10_find 16 = .ok (.aload_n 0, 1) := dAt tX10_find_0_ok 8 rfl
theorem dX10_find_17 : decode cX10_find 17 = .ok (.getfield 12, 3) := dAt tX10_find_0_ok 9 rfl
theorem dX10_find_20 : decode cX10_find 20 = .ok (.getfield 116, 3) := dAt tX10_find_0_ok 10 rfl
theorem dX10_find_23 : decode cX10_find 23 = .ok (.ifCond .lt 8, 3) := dAt tX10_find_0_ok 11 rfl
theorem dX10_find_26 : decode cX10_find 26 = .ok (.bipush (-5), 2) := dAt tX10_find_0_ok 12 rfl
theorem dX10_find_28 : decode cX10_find 28 = .ok (.goto 11, 3) := dAt tX10_find_0_ok 13 rfl
theorem dX10_find_31 : decode cX10_find 31 = .ok (.aload_n 0, 1) := dAt tX10_find_0_ok 14 rfl
theorem dX10_find_32 : decode cX10_find 32 = .ok (.getfield 51, 3) := dAt tX10_find_0_ok 15 rfl
theorem dX10_find_35 : decode cX10_find 35 = .ok (.lload_n 1, 1) := dAt tX10_find_0_ok 16 rfl
theorem dX10_find_36 : decode cX10_find 36 = .ok (.invokevirtual 128, 3) := dAt tX10_find_0_ok 17 rfl
theorem dX10_find_39 : decode cX10_find 39 = .ok (.ireturn, 1) := dAt tX10_find_0_ok 18 rfl
def tX10_from_0 : List (Nat × Instr × Nat) := [(0, .aload_n 0, 1), (1, .getfield 51, 3), (4, .aload_n 0, 1), (5, .getfield 22, 3), (8, .invokevirtual 198, 3), (11, .istore_n 1, 1), (12, .aload_n 0, 1), (13, .getfield 22, 3), (16, .iconst 0, 1), (17, .putfield 55, 3), (20, .iload_n 1, 1), (21, .ireturn, 1)]
theorem tX10_from_0_ok : dAll cX10_from tX10_from_0 = true := by decide +kernel
theorem dX10_from_0 : decode cX10_from 0 = .ok (.aload_n 0, 1) := dAt tX10_from_0_ok 0 rfl
theorem dX10_from_1 : decode cX10_from 1 = .ok (.getfield 51, 3) := dAt tX10_from_0_ok 1 rfl
theorem dX10_from_4 : decode cX10_from 4 = .ok (.aload_n 0, 1) := dAt tX10_from_0_ok 2 rfl
theorem dX10_from_5 : decode cX10_from 5 = .ok (.getfield 22, 3) := dAt tX10_from_0_ok 3 rfl
theorem dX10_from_8 : decode cX10_from 8 = .ok (.invokevirtual 198, 3) := dAt tX10_from_0_ok 4 rfl
theorem dX10_from_11 : decode cX10_from 11 = .ok (.istore_n 1, 1) := dAt tX10_from_0_ok 5 rfl
theorem dX10_from_12 : decode cX10_from 12 = .ok (.aload_n 0, 1) := dAt tX10_from_0_ok 6 rfl
theorem dX10_from_13 : decode cX10_from 13 = .ok (.getfield 22, 3) := dAt tX10_from_0_ok 7 rfl
theorem dX10_from_16 : decode cX10_from 16 = .ok (.iconst 0, 1) := dAt tX10_from_0_ok 8 rfl
theorem dX10_from_17 : decode cX10_from 17 = .ok (.putfield 55, 3) := dAt tX10_from_0_ok 9 rfl
theorem dX10_from_20 : decode cX10_from 20 = .ok (.iload_n 1, 1) := dAt tX10_from_0_ok 10 rfl
theorem dX10_from_21 : decode cX10_from 21 = .ok (.ireturn, 1) := dAt tX10_from_0_ok 11 rfl
def tX10_rename_0 : List (Nat × Instr × Nat) := [(0, .aload_n 0, 1), (1, .getfield 51, 3), (4, .iload_n 1, 1), (5, .invokevirtual 63, 3), (8, .astore_n 2, 1), (9, .aload_n 2, 1), (10, .ifnonnull 5, 3), (13, .iconst (-1), 1), (14, .ireturn, 1), (15, .aload_n 2, 1), (16, .getfield 136, 3), (19, .ifCond .eq 6, 3), (22, .bipush (-3), 2), (24, .ireturn, 1), (25, .aload_n 0, 1), (26, .getfield 12, 3), (29, .invokevirtual 194, 3), (32, .lstore_n 3, 1), (33, .aload_n 0, 1), (34, .getfield 22, 3), (37, .iconst 0, 1), (38, .putfield 55, 3), (41, .aload_n 0, 1), (42, .getfield 12, 3), (45, .getfield 116, 3), (48, .ifCond .lt 14, 3), (51, .bipush (-100), 2), (53, .aload_n 0, 1), (54, .getfield 12, 3), (57, .getfield 116, 3), (60, .isub, 1), (61, .ireturn, 1), (62, .aload_n 0, 1), (63, .getfield 51, 3), (66, .lload_n 3, 1), (67, .invokevirtual 128, 3), (70, .ifCond .lt 6, 3), (73, .bipush (-3), 2), (75, .ireturn, 1), (76, .aload_n 2, 1), (77, .lload_n 3, 1), (78, .putfield 186, 3), (81, .lload_n 3, 1), (82, .invokestatic 187, 3), (85, .ireturn, 1)]
theorem tX10_rename_0_ok : dAll cX10_rename tX10_rename_0 = true := by decide +kernel
theorem dX10_rename_0 : decode cX10_rename 0 = .ok (.aload_n 0, 1) := dAt tX10_rename_0_ok 0 rfl
theorem dX10_rename_1 : decode cX10_rename 1 = .ok (.getfield 51, 3) := dAt tX10_rename_0_ok 1 rfl
theorem dX10_rename_4 : decode cX10_rename 4 = .ok (.iload_n 1, 1) := dAt tX10_rename_0_ok 2 rfl
theorem dX10_rename_5 : decode cX10_rename 5 = .ok (.invokevirtual 63, 3) := dAt tX10_rename_0_ok 3 rfl
theorem dX10_rename_8 : decode cX10_rename 8 = .ok (.astore_n 2, 1) := dAt tX10_rename_0_ok 4 rfl
theorem dX10_rename_9 : decode cX10_rename 9 = .ok (.aload_n 2, 1) := dAt tX10_rename_0_ok 5 rfl
theorem dX10_rename_10 : decode cX10_rename 10 = .ok (.ifnonnull 5, 3) := dAt tX10_rename_0_ok 6 rfl
theorem dX10_rename_13 : decode cX10_rename 13 = .ok (.iconst (-1), 1) := dAt tX10_rename_0_ok 7 rfl
theorem dX10_rename_14 : decode cX10_rename 14 = .ok (.ireturn, 1) := dAt tX10_rename_0_ok 8 rfl
theorem dX10_rename_15 : decode cX10_rename 15 = .ok (.aload_n 2, 1) := dAt tX10_rename_0_ok 9 rfl
theorem dX10_rename_16 : decode cX10_rename 16 = .ok (.getfield 136, 3) := dAt tX10_rename_0_ok 10 rfl
theorem dX10_rename_19 : decode cX10_rename 19 = .ok (.ifCond .eq 6, 3) := dAt tX10_rename_0_ok 11 rfl
theorem dX10_rename_22 : decode cX10_rename 22 = .ok (.bipush (-3), 2) := dAt tX10_rename_0_ok 12 rfl
theorem dX10_rename_24 : decode cX10_rename 24 = .ok (.ireturn, 1) := dAt tX10_rename_0_ok 13 rfl
theorem dX10_rename_25 : decode cX10_rename 25 = .ok (.aload_n 0, 1) := dAt tX10_rename_0_ok 14 rfl
theorem dX10_rename_26 : decode cX10_rename 26 = .ok (.getfield 12, 3) := dAt tX10_rename_0_ok 15 rfl
theorem dX10_rename_29 : decode cX10_rename 29 = .ok (.invokevirtual 194, 3) := dAt tX10_rename_0_ok 16 rfl
theorem dX10_rename_32 : decode cX10_rename 32 = .ok (.lstore_n 3, 1) := dAt tX10_rename_0_ok 17 rfl
theorem dX10_rename_33 : decode cX10_rename 33 = .ok (.aload_n 0, 1) := dAt tX10_rename_0_ok 18 rfl
theorem dX10_rename_34 : decode cX10_rename 34 = .ok (.getfield 22, 3) := dAt tX10_rename_0_ok 19 rfl
theorem dX10_rename_37 : decode cX10_rename 37 = .ok (.iconst 0, 1) := dAt tX10_rename_0_ok 20 rfl
theorem dX10_rename_38 : decode cX10_rename 38 = .ok (.putfield 55, 3) := dAt tX10_rename_0_ok 21 rfl
theorem dX10_rename_41 : decode cX10_rename 41 = .ok (.aload_n 0, 1) := dAt tX10_rename_0_ok 22 rfl
theorem dX10_rename_42 : decode cX10_rename 42 = .ok (.getfield 12, 3) := dAt tX10_rename_0_ok 23 rfl
theorem dX10_rename_45 : decode cX10_rename 45 = .ok (.getfield 116, 3) := dAt tX10_rename_0_ok 24 rfl
theorem dX10_rename_48 : decode cX10_rename 48 = .ok (.ifCond .lt 14, 3) := dAt tX10_rename_0_ok 25 rfl
theorem dX10_rename_51 : decode cX10_rename 51 = .ok (.bipush (-100), 2) := dAt tX10_rename_0_ok 26 rfl
theorem dX10_rename_53 : decode cX10_rename 53 = .ok (.aload_n 0, 1) := dAt tX10_rename_0_ok 27 rfl
theorem dX10_rename_54 : decode cX10_rename 54 = .ok (.getfield 12, 3) := dAt tX10_rename_0_ok 28 rfl
theorem dX10_rename_57 : decode cX10_rename 57 = .ok (.getfield 116, 3) := dAt tX10_rename_0_ok 29 rfl
theorem dX10_rename_60 : decode cX10_rename 60 = .ok (.isub, 1) := dAt tX10_rename_0_ok 30 rfl
theorem dX10_rename_61 : decode cX10_rename 61 = .ok (.ireturn, 1) := dAt tX10_rename_0_ok 31 rfl
theorem dX10_rename_62 : decode cX10_rename 62 = .ok (.aload_n 0, 1) := dAt tX10_rename_0_ok 32 rfl
theorem dX10_rename_63 : decode cX10_rename 63 = .ok (.getfield 51, 3) := dAt tX10_rename_0_ok 33 rfl
theorem dX10_rename_66 : decode cX10_rename 66 = .ok (.lload_n 3, 1) := dAt tX10_rename_0_ok 34 rfl
theorem dX10_rename_67 : decode cX10_rename 67 = .ok (.invokevirtual 128, 3) := dAt tX10_rename_0_ok 35 rfl
theorem dX10_rename_70 : decode cX10_rename 70 = .ok (.ifCond .lt 6, 3) := dAt tX10_rename_0_ok 36 rfl
theorem dX10_rename_73 : decode cX10_rename 73 = .ok (.bipush (-3), 2) := dAt tX10_rename_0_ok 37 rfl
theorem dX10_rename_75 : decode cX10_rename 75 = .ok (.ireturn, 1) := dAt tX10_rename_0_ok 38 rfl
theorem dX10_rename_76 : decode cX10_rename 76 = .ok (.aload_n 2, 1) := dAt tX10_rename_0_ok 39 rfl
theorem dX10_rename_77 : decode cX10_rename 77 = .ok (.lload_n 3, 1) := dAt tX10_rename_0_ok 40 rfl
theorem dX10_rename_78 : decode cX10_rename 78 = .ok (.putfield 186, 3) := dAt tX10_rename_0_ok 41 rfl
theorem dX10_rename_81 : decode cX10_rename 81 = .ok (.lload_n 3, 1) := dAt tX10_rename_0_ok 42 rfl
theorem dX10_rename_82 : decode cX10_rename 82 = .ok (.invokestatic 187, 3) := dAt tX10_rename_0_ok 43 rfl
theorem dX10_rename_85 : decode cX10_rename 85 = .ok (.ireturn, 1) := dAt tX10_rename_0_ok 44 rfl
def tX10_byName_0 : List (Nat × Instr × Nat) := [(0, .aload_n 0, 1), (1, .getfield 51, 3), (4, .iload_n 1, 1), (5, .invokevirtual 202, 3), (8, .ireturn, 1)]
theorem tX10_byName_0_ok : dAll cX10_byName tX10_byName_0 = true := by decide +kernel
theorem dX10_byName_0 : decode cX10_byName 0 = .ok (.aload_n 0, 1) := dAt tX10_byName_0_ok 0 rfl
theorem dX10_byName_1 : decode cX10_byName 1 = .ok (.getfield 51, 3) := dAt tX10_byName_0_ok 1 rfl
theorem dX10_byName_4 : decode cX10_byName 4 = .ok (.iload_n 1, 1) := dAt tX10_byName_0_ok 2 rfl
theorem dX10_byName_5 : decode cX10_byName 5 = .ok (.invokevirtual 202, 3) := dAt tX10_byName_0_ok 3 rfl
theorem dX10_byName_8 : decode cX10_byName 8 = .ok (.ireturn, 1) := dAt tX10_byName_0_ok 4 rfl
def tX10_plan_0 : List (Nat × Instr × Nat) := [(0, .aload_n 0, 1), (1, .getfield 51, 3), (4, .iload_n 1, 1), (5, .invokevirtual 95, 3), (8, .ifnonnull 7, 3), (11, .iconst (-1), 1), (12, .goto 12, 3), (15, .aload_n 0, 1), (16, .getfield 51, 3), (19, .iload_n 1, 1), (20, .iload_n 2, 1), (21, .invokevirtual 205, 3), (24, .ireturn, 1)]
theorem tX10_plan_0_ok : dAll cX10_plan tX10_plan_0 = true := by decide +kernel
theorem dX10_plan_0 : decode cX10_plan 0 = .ok (.aload_n 0, 1) := dAt tX10_plan_0_ok 0 rfl
theorem dX10_plan_1 : decode cX10_plan 1 = .ok (.getfield 51, 3) := dAt tX10_plan_0_ok 1 rfl
theorem dX10_plan_4 : decode cX10_plan 4 = .ok (.iload_n 1, 1) := dAt tX10_plan_0_ok 2 rfl
theorem dX10_plan_5 : decode cX10_plan 5 = .ok (.invokevirtual 95, 3) := dAt tX10_plan_0_ok 3 rfl
theorem dX10_plan_8 : decode cX10_plan 8 = .ok (.ifnonnull 7, 3) := dAt tX10_plan_0_ok 4 rfl
theorem dX10_plan_11 : decode cX10_plan 11 = .ok (.iconst (-1), 1) := dAt tX10_plan_0_ok 5 rfl
theorem dX10_plan_12 : decode cX10_plan 12 = .ok (.goto 12, 3) := dAt tX10_plan_0_ok 6 rfl
theorem dX10_plan_15 : decode cX10_plan 15 = .ok (.aload_n 0, 1) := dAt tX10_plan_0_ok 7 rfl
theorem dX10_plan_16 : decode cX10_plan 16 = .ok (.getfield 51, 3) := dAt tX10_plan_0_ok 8 rfl
theorem dX10_plan_19 : decode cX10_plan 19 = .ok (.iload_n 1, 1) := dAt tX10_plan_0_ok 9 rfl
theorem dX10_plan_20 : decode cX10_plan 20 = .ok (.iload_n 2, 1) := dAt tX10_plan_0_ok 10 rfl
theorem dX10_plan_21 : decode cX10_plan 21 = .ok (.invokevirtual 205, 3) := dAt tX10_plan_0_ok 11 rfl
theorem dX10_plan_24 : decode cX10_plan 24 = .ok (.ireturn, 1) := dAt tX10_plan_0_ok 12 rfl
def tX10_would_0 : List (Nat × Instr × Nat) := [(0, .aload_n 0, 1), (1, .getfield 51, 3), (4, .iload_n 1, 1), (5, .invokevirtual 95, 3), (8, .astore_n 3, 1), (9, .aload_n 3, 1), (10, .ifnull 12, 3), (13, .iload_n 2, 1), (14, .ifCond .lt 8, 3), (17, .iload_n 2, 1), (18, .iconst 5, 1), (19, .if_icmp .le 5, 3), (22, .iconst (-1), 1), (23, .ireturn, 1), (24, .aload_n 3, 1), (25, .getfield 99, 3), (28, .ifCond .eq 6, 3), (31, .bipush (-3), 2), (33, .ireturn, 1), (34, .aload_n 0, 1), (35, .invokevirtual 208, 3), (38, .astore 4, 2), (40, .aload 4, 2), (42, .getfield 47, 3), (45, .astore 5, 2), (47, .aload 4, 2), (49, .bipush 100, 2), (51, .iload_n 1, 1), (52, .iadd, 1), (53, .invokevirtual 137, 3), (56, .istore 6, 2), (58, .iload_n 2, 1), (59, .tableswitch 86 0 4 #[33, 36, 44, 52, 72], 33), (92, .iload 6, 2), (94, .ireturn, 1), (95, .aload 5, 2), (97, .iconst (-1), 1), (98, .iconst 0, 1), (99, .invokevirtual 212, 3), (102, .ireturn, 1), (103, .aload 5, 2), (105, .iconst (-1), 1), (106, .iconst 0, 1), (107, .invokevirtual 215, 3), (110, .ireturn, 1), (111, .aload 5, 2), (113, .getfield 218, 3), (116, .getfield 55, 3)]
theorem tX10_would_0_ok : dAll cX10_would tX10_would_0 = true := by decide +kernel
theorem dX10_would_0 : decode cX10_would 0 = .ok (.aload_n 0, 1) := dAt tX10_would_0_ok 0 rfl
theorem dX10_would_1 : decode cX10_would 1 = .ok (.getfield 51, 3) := dAt tX10_would_0_ok 1 rfl
theorem dX10_would_4 : decode cX10_would 4 = .ok (.iload_n 1, 1) := dAt tX10_would_0_ok 2 rfl
theorem dX10_would_5 : decode cX10_would 5 = .ok (.invokevirtual 95, 3) := dAt tX10_would_0_ok 3 rfl
theorem dX10_would_8 : decode cX10_would 8 = .ok (.astore_n 3, 1) := dAt tX10_would_0_ok 4 rfl
theorem dX10_would_9 : decode cX10_would 9 = .ok (.aload_n 3, 1) := dAt tX10_would_0_ok 5 rfl
theorem dX10_would_10 : decode cX10_would 10 = .ok (.ifnull 12, 3) := dAt tX10_would_0_ok 6 rfl
theorem dX10_would_13 : decode cX10_would 13 = .ok (.iload_n 2, 1) := dAt tX10_would_0_ok 7 rfl
theorem dX10_would_14 : decode cX10_would 14 = .ok (.ifCond .lt 8, 3) := dAt tX10_would_0_ok 8 rfl
theorem dX10_would_17 : decode cX10_would 17 = .ok (.iload_n 2, 1) := dAt tX10_would_0_ok 9 rfl
theorem dX10_would_18 : decode cX10_would 18 = .ok (.iconst 5, 1) := dAt tX10_would_0_ok 10 rfl
theorem dX10_would_19 : decode cX10_would 19 = .ok (.if_icmp .le 5, 3) := dAt tX10_would_0_ok 11 rfl
theorem dX10_would_22 : decode cX10_would 22 = .ok (.iconst (-1), 1) := dAt tX10_would_0_ok 12 rfl
theorem dX10_would_23 : decode cX10_would 23 = .ok (.ireturn, 1) := dAt tX10_would_0_ok 13 rfl
theorem dX10_would_24 : decode cX10_would 24 = .ok (.aload_n 3, 1) := dAt tX10_would_0_ok 14 rfl
theorem dX10_would_25 : decode cX10_would 25 = .ok (.getfield 99, 3) := dAt tX10_would_0_ok 15 rfl
theorem dX10_would_28 : decode cX10_would 28 = .ok (.ifCond .eq 6, 3) := dAt tX10_would_0_ok 16 rfl
theorem dX10_would_31 : decode cX10_would 31 = .ok (.bipush (-3), 2) := dAt tX10_would_0_ok 17 rfl
theorem dX10_would_33 : decode cX10_would 33 = .ok (.ireturn, 1) := dAt tX10_would_0_ok 18 rfl
theorem dX10_would_34 : decode cX10_would 34 = .ok (.aload_n 0, 1) := dAt tX10_would_0_ok 19 rfl
theorem dX10_would_35 : decode cX10_would 35 = .ok (.invokevirtual 208, 3) := dAt tX10_would_0_ok 20 rfl
theorem dX10_would_38 : decode cX10_would 38 = .ok (.astore 4, 2) := dAt tX10_would_0_ok 21 rfl
theorem dX10_would_40 : decode cX10_would 40 = .ok (.aload 4, 2) := dAt tX10_would_0_ok 22 rfl
theorem dX10_would_42 : decode cX10_would 42 = .ok (.getfield 47, 3) := dAt tX10_would_0_ok 23 rfl
theorem dX10_would_45 : decode cX10_would 45 = .ok (.astore 5, 2) := dAt tX10_would_0_ok 24 rfl
theorem dX10_would_47 : decode cX10_would 47 = .ok (.aload 4, 2) := dAt tX10_would_0_ok 25 rfl
theorem dX10_would_49 : decode cX10_would 49 = .ok (.bipush 100, 2) := dAt tX10_would_0_ok 26 rfl
theorem dX10_would_51 : decode cX10_would 51 = .ok (.iload_n 1, 1) := dAt tX10_would_0_ok 27 rfl
theorem dX10_would_52 : decode cX10_would 52 = .ok (.iadd, 1) := dAt tX10_would_0_ok 28 rfl
theorem dX10_would_53 : decode cX10_would 53 = .ok (.invokevirtual 137, 3) := dAt tX10_would_0_ok 29 rfl
theorem dX10_would_56 : decode cX10_would 56 = .ok (.istore 6, 2) := dAt tX10_would_0_ok 30 rfl
theorem dX10_would_58 : decode cX10_would 58 = .ok (.iload_n 2, 1) := dAt tX10_would_0_ok 31 rfl
theorem dX10_would_59 : decode cX10_would 59 = .ok (.tableswitch 86 0 4 #[33, 36, 44, 52, 72], 33) := dAt tX10_would_0_ok 32 rfl
theorem dX10_would_92 : decode cX10_would 92 = .ok (.iload 6, 2) := dAt tX10_would_0_ok 33 rfl
theorem dX10_would_94 : decode cX10_would 94 = .ok (.ireturn, 1) := dAt tX10_would_0_ok 34 rfl
theorem dX10_would_95 : decode cX10_would 95 = .ok (.aload 5, 2) := dAt tX10_would_0_ok 35 rfl
theorem dX10_would_97 : decode cX10_would 97 = .ok (.iconst (-1), 1) := dAt tX10_would_0_ok 36 rfl
theorem dX10_would_98 : decode cX10_would 98 = .ok (.iconst 0, 1) := dAt tX10_would_0_ok 37 rfl
theorem dX10_would_99 : decode cX10_would 99 = .ok (.invokevirtual 212, 3) := dAt tX10_would_0_ok 38 rfl
theorem dX10_would_102 : decode cX10_would 102 = .ok (.ireturn, 1) := dAt tX10_would_0_ok 39 rfl
theorem dX10_would_103 : decode cX10_would 103 = .ok (.aload 5, 2) := dAt tX10_would_0_ok 40 rfl
theorem dX10_would_105 : decode cX10_would 105 = .ok (.iconst (-1), 1) := dAt tX10_would_0_ok 41 rfl
theorem dX10_would_106 : decode cX10_would 106 = .ok (.iconst 0, 1) := dAt tX10_would_0_ok 42 rfl
theorem dX10_would_107 : decode cX10_would 107 = .ok (.invokevirtual 215, 3) := dAt tX10_would_0_ok 43 rfl
theorem dX10_would_110 : decode cX10_would 110 = .ok (.ireturn, 1) := dAt tX10_would_0_ok 44 rfl
theorem dX10_would_111 : decode cX10_would 111 = .ok (.aload 5, 2) := dAt tX10_would_0_ok 45 rfl
theorem dX10_would_113 : decode cX10_would 113 = .ok (.getfield 218, 3) := dAt tX10_would_0_ok 46 rfl
theorem dX10_would_116 : decode cX10_would 116 = .ok (.getfield 55, 3) := dAt tX10_would_0_ok 47 rfl
def tX10_would_119 : List (Nat × Instr × Nat) := [(119, .aload_n 0, 1), (120, .getfield 51, 3), (123, .getfield 218, 3), (126, .getfield 55, 3), (129, .isub, 1), (130, .ireturn, 1), (131, .aload 5, 2), (133, .getfield 221, 3), (136, .aload_n 0, 1), (137, .getfield 51, 3), (140, .getfield 221, 3), (143, .isub, 1), (144, .ireturn, 1), (145, .aload 5, 2), (147, .iconst 0, 1), (148, .invokevirtual 158, 3), (151, .ireturn, 1)]
theorem tX10_would_119_ok : dAll cX10_would tX10_would_119 = true := by decide +kernel
theorem dX10_would_119 : decode cX10_would 119 = .ok (.aload_n 0, 1) := dAt tX10_would_119_ok 0 rfl
theorem dX10_would_120 : decode cX10_would 120 = .ok (.getfield 51, 3) := dAt tX10_would_119_ok 1 rfl
theorem dX10_would_123 : decode cX10_would 123 = .ok (.getfield 218, 3) := dAt tX10_would_119_ok 2 rfl
theorem dX10_would_126 : decode cX10_would 126 = .ok (.getfield 55, 3) := dAt tX10_would_119_ok 3 rfl
theorem dX10_would_129 : decode cX10_would 129 = .ok (.isub, 1) := dAt tX10_would_119_ok 4 rfl
theorem dX10_would_130 : decode cX10_would 130 = .ok (.ireturn, 1) := dAt tX10_would_119_ok 5 rfl
theorem dX10_would_131 : decode cX10_would 131 = .ok (.aload 5, 2) := dAt tX10_would_119_ok 6 rfl
theorem dX10_would_133 : decode cX10_would 133 = .ok (.getfield 221, 3) := dAt tX10_would_119_ok 7 rfl
theorem dX10_would_136 : decode cX10_would 136 = .ok (.aload_n 0, 1) := dAt tX10_would_119_ok 8 rfl
theorem dX10_would_137 : decode cX10_would 137 = .ok (.getfield 51, 3) := dAt tX10_would_119_ok 9 rfl
theorem dX10_would_140 : decode cX10_would 140 = .ok (.getfield 221, 3) := dAt tX10_would_119_ok 10 rfl
theorem dX10_would_143 : decode cX10_would 143 = .ok (.isub, 1) := dAt tX10_would_119_ok 11 rfl
theorem dX10_would_144 : decode cX10_would 144 = .ok (.ireturn, 1) := dAt tX10_would_119_ok 12 rfl
theorem dX10_would_145 : decode cX10_would 145 = .ok (.aload 5, 2) := dAt tX10_would_119_ok 13 rfl
theorem dX10_would_147 : decode cX10_would 147 = .ok (.iconst 0, 1) := dAt tX10_would_119_ok 14 rfl
theorem dX10_would_148 : decode cX10_would 148 = .ok (.invokevirtual 158, 3) := dAt tX10_would_119_ok 15 rfl
theorem dX10_would_151 : decode cX10_would 151 = .ok (.ireturn, 1) := dAt tX10_would_119_ok 16 rfl
def tX10_trial_0 : List (Nat × Instr × Nat) := [(0, .aload_n 0, 1), (1, .getfield 51, 3), (4, .iload_n 1, 1), (5, .invokevirtual 79, 3), (8, .ifnull 12, 3), (11, .iload_n 3, 1), (12, .ifCond .lt 8, 3), (15, .iload_n 3, 1), (16, .iconst 5, 1), (17, .if_icmp .le 5, 3), (20, .iconst (-1), 1), (21, .ireturn, 1), (22, .iload_n 2, 1), (23, .ifCond .lt 9, 3), (26, .iload_n 2, 1), (27, .bipush 100, 2), (29, .if_icmp .le 6, 3), (32, .bipush (-2), 2), (34, .ireturn, 1), (35, .aload_n 0, 1), (36, .invokevirtual 208, 3), (39, .astore 4, 2), (41, .aload 4, 2), (43, .getfield 47, 3), (46, .astore 5, 2), (48, .aload 4, 2), (50, .iload_n 2, 1), (51, .invokevirtual 224, 3), (54, .pop, 1), (55, .aload 5, 2), (57, .iload_n 1, 1), (58, .invokevirtual 79, 3), (61, .astore 6, 2), (63, .iload_n 3, 1), (64, .tableswitch 89 0 4 #[36, 43, 51, 59, 74], 36), (100, .aload 5, 2), (102, .iload_n 1, 1), (103, .invokevirtual 227, 3), (106, .ireturn, 1), (107, .aload 5, 2), (109, .iload_n 1, 1), (110, .iconst 0, 1), (111, .invokevirtual 212, 3), (114, .ireturn, 1), (115, .aload 5, 2), (117, .iload_n 1, 1), (118, .iconst 0, 1), (119, .invokevirtual 215, 3)]
theorem tX10_trial_0_ok : dAll cX10_trial tX10_trial_0 = true := by decide +kernel
theorem dX10_trial_0 : decode cX10_trial 0 = .ok (.aload_n 0, 1) := dAt tX10_trial_0_ok 0 rfl
theorem dX10_trial_1 : decode cX10_trial 1 = .ok (.getfield 51, 3) := dAt tX10_trial_0_ok 1 rfl
theorem dX10_trial_4 : decode cX10_trial 4 = .ok (.iload_n 1, 1) := dAt tX10_trial_0_ok 2 rfl
theorem dX10_trial_5 : decode cX10_trial 5 = .ok (.invokevirtual 79, 3) := dAt tX10_trial_0_ok 3 rfl
theorem dX10_trial_8 : decode cX10_trial 8 = .ok (.ifnull 12, 3) := dAt tX10_trial_0_ok 4 rfl
theorem dX10_trial_11 : decode cX10_trial 11 = .ok (.iload_n 3, 1) := dAt tX10_trial_0_ok 5 rfl
theorem dX10_trial_12 : decode cX10_trial 12 = .ok (.ifCond .lt 8, 3) := dAt tX10_trial_0_ok 6 rfl
theorem dX10_trial_15 : decode cX10_trial 15 = .ok (.iload_n 3, 1) := dAt tX10_trial_0_ok 7 rfl
theorem dX10_trial_16 : decode cX10_trial 16 = .ok (.iconst 5, 1) := dAt tX10_trial_0_ok 8 rfl
theorem dX10_trial_17 : decode cX10_trial 17 = .ok (.if_icmp .le 5, 3) := dAt tX10_trial_0_ok 9 rfl
theorem dX10_trial_20 : decode cX10_trial 20 = .ok (.iconst (-1), 1) := dAt tX10_trial_0_ok 10 rfl
theorem dX10_trial_21 : decode cX10_trial 21 = .ok (.ireturn, 1) := dAt tX10_trial_0_ok 11 rfl
theorem dX10_trial_22 : decode cX10_trial 22 = .ok (.iload_n 2, 1) := dAt tX10_trial_0_ok 12 rfl
theorem dX10_trial_23 : decode cX10_trial 23 = .ok (.ifCond .lt 9, 3) := dAt tX10_trial_0_ok 13 rfl
theorem dX10_trial_26 : decode cX10_trial 26 = .ok (.iload_n 2, 1) := dAt tX10_trial_0_ok 14 rfl
theorem dX10_trial_27 : decode cX10_trial 27 = .ok (.bipush 100, 2) := dAt tX10_trial_0_ok 15 rfl
theorem dX10_trial_29 : decode cX10_trial 29 = .ok (.if_icmp .le 6, 3) := dAt tX10_trial_0_ok 16 rfl
theorem dX10_trial_32 : decode cX10_trial 32 = .ok (.bipush (-2), 2) := dAt tX10_trial_0_ok 17 rfl
theorem dX10_trial_34 : decode cX10_trial 34 = .ok (.ireturn, 1) := dAt tX10_trial_0_ok 18 rfl
theorem dX10_trial_35 : decode cX10_trial 35 = .ok (.aload_n 0, 1) := dAt tX10_trial_0_ok 19 rfl
theorem dX10_trial_36 : decode cX10_trial 36 = .ok (.invokevirtual 208, 3) := dAt tX10_trial_0_ok 20 rfl
theorem dX10_trial_39 : decode cX10_trial 39 = .ok (.astore 4, 2) := dAt tX10_trial_0_ok 21 rfl
theorem dX10_trial_41 : decode cX10_trial 41 = .ok (.aload 4, 2) := dAt tX10_trial_0_ok 22 rfl
theorem dX10_trial_43 : decode cX10_trial 43 = .ok (.getfield 47, 3) := dAt tX10_trial_0_ok 23 rfl
theorem dX10_trial_46 : decode cX10_trial 46 = .ok (.astore 5, 2) := dAt tX10_trial_0_ok 24 rfl
theorem dX10_trial_48 : decode cX10_trial 48 = .ok (.aload 4, 2) := dAt tX10_trial_0_ok 25 rfl
theorem dX10_trial_50 : decode cX10_trial 50 = .ok (.iload_n 2, 1) := dAt tX10_trial_0_ok 26 rfl
theorem dX10_trial_51 : decode cX10_trial 51 = .ok (.invokevirtual 224, 3) := dAt tX10_trial_0_ok 27 rfl
theorem dX10_trial_54 : decode cX10_trial 54 = .ok (.pop, 1) := dAt tX10_trial_0_ok 28 rfl
theorem dX10_trial_55 : decode cX10_trial 55 = .ok (.aload 5, 2) := dAt tX10_trial_0_ok 29 rfl
theorem dX10_trial_57 : decode cX10_trial 57 = .ok (.iload_n 1, 1) := dAt tX10_trial_0_ok 30 rfl
theorem dX10_trial_58 : decode cX10_trial 58 = .ok (.invokevirtual 79, 3) := dAt tX10_trial_0_ok 31 rfl
theorem dX10_trial_61 : decode cX10_trial 61 = .ok (.astore 6, 2) := dAt tX10_trial_0_ok 32 rfl
theorem dX10_trial_63 : decode cX10_trial 63 = .ok (.iload_n 3, 1) := dAt tX10_trial_0_ok 33 rfl
theorem dX10_trial_64 : decode cX10_trial 64 = .ok (.tableswitch 89 0 4 #[36, 43, 51, 59, 74], 36) := dAt tX10_trial_0_ok 34 rfl
theorem dX10_trial_100 : decode cX10_trial 100 = .ok (.aload 5, 2) := dAt tX10_trial_0_ok 35 rfl
theorem dX10_trial_102 : decode cX10_trial 102 = .ok (.iload_n 1, 1) := dAt tX10_trial_0_ok 36 rfl
theorem dX10_trial_103 : decode cX10_trial 103 = .ok (.invokevirtual 227, 3) := dAt tX10_trial_0_ok 37 rfl
theorem dX10_trial_106 : decode cX10_trial 106 = .ok (.ireturn, 1) := dAt tX10_trial_0_ok 38 rfl
theorem dX10_trial_107 : decode cX10_trial 107 = .ok (.aload 5, 2) := dAt tX10_trial_0_ok 39 rfl
theorem dX10_trial_109 : decode cX10_trial 109 = .ok (.iload_n 1, 1) := dAt tX10_trial_0_ok 40 rfl
theorem dX10_trial_110 : decode cX10_trial 110 = .ok (.iconst 0, 1) := dAt tX10_trial_0_ok 41 rfl
theorem dX10_trial_111 : decode cX10_trial 111 = .ok (.invokevirtual 212, 3) := dAt tX10_trial_0_ok 42 rfl
theorem dX10_trial_114 : decode cX10_trial 114 = .ok (.ireturn, 1) := dAt tX10_trial_0_ok 43 rfl
theorem dX10_trial_115 : decode cX10_trial 115 = .ok (.aload 5, 2) := dAt tX10_trial_0_ok 44 rfl
theorem dX10_trial_117 : decode cX10_trial 117 = .ok (.iload_n 1, 1) := dAt tX10_trial_0_ok 45 rfl
theorem dX10_trial_118 : decode cX10_trial 118 = .ok (.iconst 0, 1) := dAt tX10_trial_0_ok 46 rfl
theorem dX10_trial_119 : decode cX10_trial 119 = .ok (.invokevirtual 215, 3) := dAt tX10_trial_0_ok 47 rfl
def tX10_trial_122 : List (Nat × Instr × Nat) := [(122, .ireturn, 1), (123, .aload 6, 2), (125, .ifnonnull 7, 3), (128, .iconst (-1), 1), (129, .goto 8, 3), (132, .aload 6, 2), (134, .getfield 230, 3), (137, .ireturn, 1), (138, .aload 6, 2), (140, .ifnonnull 7, 3), (143, .iconst (-1), 1), (144, .goto 8, 3), (147, .aload 6, 2), (149, .getfield 231, 3), (152, .ireturn, 1), (153, .aload 5, 2), (155, .getfield 218, 3), (158, .getfield 55, 3), (161, .ireturn, 1)]
theorem tX10_trial_122_ok : dAll cX10_trial tX10_trial_122 = true := by decide +kernel
theorem dX10_trial_122 : decode cX10_trial 122 = .ok (.ireturn, 1) := dAt tX10_trial_122_ok 0 rfl
theorem dX10_trial_123 : decode cX10_trial 123 = .ok (.aload 6, 2) := dAt tX10_trial_122_ok 1 rfl
theorem dX10_trial_125 : decode cX10_trial 125 = .ok (.ifnonnull 7, 3) := dAt tX10_trial_122_ok 2 rfl
theorem dX10_trial_128 : decode cX10_trial 128 = .ok (.iconst (-1), 1) := dAt tX10_trial_122_ok 3 rfl
theorem dX10_trial_129 : decode cX10_trial 129 = .ok (.goto 8, 3) := dAt tX10_trial_122_ok 4 rfl
theorem dX10_trial_132 : decode cX10_trial 132 = .ok (.aload 6, 2) := dAt tX10_trial_122_ok 5 rfl
theorem dX10_trial_134 : decode cX10_trial 134 = .ok (.getfield 230, 3) := dAt tX10_trial_122_ok 6 rfl
theorem dX10_trial_137 : decode cX10_trial 137 = .ok (.ireturn, 1) := dAt tX10_trial_122_ok 7 rfl
theorem dX10_trial_138 : decode cX10_trial 138 = .ok (.aload 6, 2) := dAt tX10_trial_122_ok 8 rfl
theorem dX10_trial_140 : decode cX10_trial 140 = .ok (.ifnonnull 7, 3) := dAt tX10_trial_122_ok 9 rfl
theorem dX10_trial_143 : decode cX10_trial 143 = .ok (.iconst (-1), 1) := dAt tX10_trial_122_ok 10 rfl
theorem dX10_trial_144 : decode cX10_trial 144 = .ok (.goto 8, 3) := dAt tX10_trial_122_ok 11 rfl
theorem dX10_trial_147 : decode cX10_trial 147 = .ok (.aload 6, 2) := dAt tX10_trial_122_ok 12 rfl
theorem dX10_trial_149 : decode cX10_trial 149 = .ok (.getfield 231, 3) := dAt tX10_trial_122_ok 13 rfl
theorem dX10_trial_152 : decode cX10_trial 152 = .ok (.ireturn, 1) := dAt tX10_trial_122_ok 14 rfl
theorem dX10_trial_153 : decode cX10_trial 153 = .ok (.aload 5, 2) := dAt tX10_trial_122_ok 15 rfl
theorem dX10_trial_155 : decode cX10_trial 155 = .ok (.getfield 218, 3) := dAt tX10_trial_122_ok 16 rfl
theorem dX10_trial_158 : decode cX10_trial 158 = .ok (.getfield 55, 3) := dAt tX10_trial_122_ok 17 rfl
theorem dX10_trial_161 : decode cX10_trial 161 = .ok (.ireturn, 1) := dAt tX10_trial_122_ok 18 rfl
def tX10_log_0 : List (Nat × Instr × Nat) := [(0, .aload_n 0, 1), (1, .getfield 51, 3), (4, .getfield 218, 3), (7, .iload_n 1, 1), (8, .invokevirtual 88, 3), (11, .ifCond .eq 17, 3), (14, .aload_n 0, 1), (15, .getfield 51, 3), (18, .getfield 218, 3), (21, .iload_n 1, 1), (22, .invokevirtual 91, 3), (25, .goto 4, 3), (28, .iconst (-1), 1), (29, .ireturn, 1)]
theorem tX10_log_0_ok : dAll cX10_log tX10_log_0 = true := by decide +kernel
theorem dX10_log_0 : decode cX10_log 0 = .ok (.aload_n 0, 1) := dAt tX10_log_0_ok 0 rfl
theorem dX10_log_1 : decode cX10_log 1 = .ok (.getfield 51, 3) := dAt tX10_log_0_ok 1 rfl
theorem dX10_log_4 : decode cX10_log 4 = .ok (.getfield 218, 3) := dAt tX10_log_0_ok 2 rfl
theorem dX10_log_7 : decode cX10_log 7 = .ok (.iload_n 1, 1) := dAt tX10_log_0_ok 3 rfl
theorem dX10_log_8 : decode cX10_log 8 = .ok (.invokevirtual 88, 3) := dAt tX10_log_0_ok 4 rfl
theorem dX10_log_11 : decode cX10_log 11 = .ok (.ifCond .eq 17, 3) := dAt tX10_log_0_ok 5 rfl
theorem dX10_log_14 : decode cX10_log 14 = .ok (.aload_n 0, 1) := dAt tX10_log_0_ok 6 rfl
theorem dX10_log_15 : decode cX10_log 15 = .ok (.getfield 51, 3) := dAt tX10_log_0_ok 7 rfl
theorem dX10_log_18 : decode cX10_log 18 = .ok (.getfield 218, 3) := dAt tX10_log_0_ok 8 rfl
theorem dX10_log_21 : decode cX10_log 21 = .ok (.iload_n 1, 1) := dAt tX10_log_0_ok 9 rfl
theorem dX10_log_22 : decode cX10_log 22 = .ok (.invokevirtual 91, 3) := dAt tX10_log_0_ok 10 rfl
theorem dX10_log_25 : decode cX10_log 25 = .ok (.goto 4, 3) := dAt tX10_log_0_ok 11 rfl
theorem dX10_log_28 : decode cX10_log 28 = .ok (.iconst (-1), 1) := dAt tX10_log_0_ok 12 rfl
theorem dX10_log_29 : decode cX10_log 29 = .ok (.ireturn, 1) := dAt tX10_log_0_ok 13 rfl
def tX10_fault_0 : List (Nat × Instr × Nat) := [(0, .iload_n 2, 1), (1, .ifCond .lt 21, 3), (4, .iload_n 2, 1), (5, .aload_n 0, 1), (6, .iload_n 1, 1), (7, .invokevirtual 234, 3), (10, .if_icmp .ge 12, 3), (13, .iload_n 3, 1), (14, .ifCond .lt 8, 3), (17, .iload_n 3, 1), (18, .iconst 1, 1), (19, .if_icmp .le 5, 3), (22, .iconst (-1), 1), (23, .ireturn, 1), (24, .iload_n 3, 1), (25, .ifCond .ne 15, 3), (28, .aload_n 0, 1), (29, .getfield 51, 3), (32, .iload_n 1, 1), (33, .iload_n 2, 1), (34, .invokevirtual 212, 3), (37, .goto 12, 3), (40, .aload_n 0, 1), (41, .getfield 51, 3), (44, .iload_n 1, 1), (45, .iload_n 2, 1), (46, .invokevirtual 215, 3), (49, .ireturn, 1)]
theorem tX10_fault_0_ok : dAll cX10_fault tX10_fault_0 = true := by decide +kernel
theorem dX10_fault_0 : decode cX10_fault 0 = .ok (.iload_n 2, 1) := dAt tX10_fault_0_ok 0 rfl
theorem dX10_fault_1 : decode cX10_fault 1 = .ok (.ifCond .lt 21, 3) := dAt tX10_fault_0_ok 1 rfl
theorem dX10_fault_4 : decode cX10_fault 4 = .ok (.iload_n 2, 1) := dAt tX10_fault_0_ok 2 rfl
theorem dX10_fault_5 : decode cX10_fault 5 = .ok (.aload_n 0, 1) := dAt tX10_fault_0_ok 3 rfl
theorem dX10_fault_6 : decode cX10_fault 6 = .ok (.iload_n 1, 1) := dAt tX10_fault_0_ok 4 rfl
theorem dX10_fault_7 : decode cX10_fault 7 = .ok (.invokevirtual 234, 3) := dAt tX10_fault_0_ok 5 rfl
theorem dX10_fault_10 : decode cX10_fault 10 = .ok (.if_icmp .ge 12, 3) := dAt tX10_fault_0_ok 6 rfl
theorem dX10_fault_13 : decode cX10_fault 13 = .ok (.iload_n 3, 1) := dAt tX10_fault_0_ok 7 rfl
theorem dX10_fault_14 : decode cX10_fault 14 = .ok (.ifCond .lt 8, 3) := dAt tX10_fault_0_ok 8 rfl
theorem dX10_fault_17 : decode cX10_fault 17 = .ok (.iload_n 3, 1) := dAt tX10_fault_0_ok 9 rfl
theorem dX10_fault_18 : decode cX10_fault 18 = .ok (.iconst 1, 1) := dAt tX10_fault_0_ok 10 rfl
theorem dX10_fault_19 : decode cX10_fault 19 = .ok (.if_icmp .le 5, 3) := dAt tX10_fault_0_ok 11 rfl
theorem dX10_fault_22 : decode cX10_fault 22 = .ok (.iconst (-1), 1) := dAt tX10_fault_0_ok 12 rfl
theorem dX10_fault_23 : decode cX10_fault 23 = .ok (.ireturn, 1) := dAt tX10_fault_0_ok 13 rfl
theorem dX10_fault_24 : decode cX10_fault 24 = .ok (.iload_n 3, 1) := dAt tX10_fault_0_ok 14 rfl
theorem dX10_fault_25 : decode cX10_fault 25 = .ok (.ifCond .ne 15, 3) := dAt tX10_fault_0_ok 15 rfl
theorem dX10_fault_28 : decode cX10_fault 28 = .ok (.aload_n 0, 1) := dAt tX10_fault_0_ok 16 rfl
theorem dX10_fault_29 : decode cX10_fault 29 = .ok (.getfield 51, 3) := dAt tX10_fault_0_ok 17 rfl
theorem dX10_fault_32 : decode cX10_fault 32 = .ok (.iload_n 1, 1) := dAt tX10_fault_0_ok 18 rfl
theorem dX10_fault_33 : decode cX10_fault 33 = .ok (.iload_n 2, 1) := dAt tX10_fault_0_ok 19 rfl
theorem dX10_fault_34 : decode cX10_fault 34 = .ok (.invokevirtual 212, 3) := dAt tX10_fault_0_ok 20 rfl
theorem dX10_fault_37 : decode cX10_fault 37 = .ok (.goto 12, 3) := dAt tX10_fault_0_ok 21 rfl
theorem dX10_fault_40 : decode cX10_fault 40 = .ok (.aload_n 0, 1) := dAt tX10_fault_0_ok 22 rfl
theorem dX10_fault_41 : decode cX10_fault 41 = .ok (.getfield 51, 3) := dAt tX10_fault_0_ok 23 rfl
theorem dX10_fault_44 : decode cX10_fault 44 = .ok (.iload_n 1, 1) := dAt tX10_fault_0_ok 24 rfl
theorem dX10_fault_45 : decode cX10_fault 45 = .ok (.iload_n 2, 1) := dAt tX10_fault_0_ok 25 rfl
theorem dX10_fault_46 : decode cX10_fault 46 = .ok (.invokevirtual 215, 3) := dAt tX10_fault_0_ok 26 rfl
theorem dX10_fault_49 : decode cX10_fault 49 = .ok (.ireturn, 1) := dAt tX10_fault_0_ok 27 rfl
def tX10_faults_0 : List (Nat × Instr × Nat) := [(0, .iload_n 1, 1), (1, .iconst (-1), 1), (2, .if_icmp .eq 16, 3), (5, .aload_n 0, 1), (6, .getfield 51, 3), (9, .iload_n 1, 1), (10, .invokevirtual 79, 3), (13, .ifnonnull 5, 3), (16, .iconst (-1), 1), (17, .ireturn, 1), (18, .aload_n 0, 1), (19, .getfield 51, 3), (22, .iload_n 1, 1), (23, .invokevirtual 227, 3), (26, .ireturn, 1)]
theorem tX10_faults_0_ok : dAll cX10_faults tX10_faults_0 = true := by decide +kernel
theorem dX10_faults_0 : decode cX10_faults 0 = .ok (.iload_n 1, 1) := dAt tX10_faults_0_ok 0 rfl
theorem dX10_faults_1 : decode cX10_faults 1 = .ok (.iconst (-1), 1) := dAt tX10_faults_0_ok 1 rfl
theorem dX10_faults_2 : decode cX10_faults 2 = .ok (.if_icmp .eq 16, 3) := dAt tX10_faults_0_ok 2 rfl
theorem dX10_faults_5 : decode cX10_faults 5 = .ok (.aload_n 0, 1) := dAt tX10_faults_0_ok 3 rfl
theorem dX10_faults_6 : decode cX10_faults 6 = .ok (.getfield 51, 3) := dAt tX10_faults_0_ok 4 rfl
theorem dX10_faults_9 : decode cX10_faults 9 = .ok (.iload_n 1, 1) := dAt tX10_faults_0_ok 5 rfl
theorem dX10_faults_10 : decode cX10_faults 10 = .ok (.invokevirtual 79, 3) := dAt tX10_faults_0_ok 6 rfl
theorem dX10_faults_13 : decode cX10_faults 13 = .ok (.ifnonnull 5, 3) := dAt tX10_faults_0_ok 7 rfl
theorem dX10_faults_16 : decode cX10_faults 16 = .ok (.iconst (-1), 1) := dAt tX10_faults_0_ok 8 rfl
theorem dX10_faults_17 : decode cX10_faults 17 = .ok (.ireturn, 1) := dAt tX10_faults_0_ok 9 rfl
theorem dX10_faults_18 : decode cX10_faults 18 = .ok (.aload_n 0, 1) := dAt tX10_faults_0_ok 10 rfl
theorem dX10_faults_19 : decode cX10_faults 19 = .ok (.getfield 51, 3) := dAt tX10_faults_0_ok 11 rfl
theorem dX10_faults_22 : decode cX10_faults 22 = .ok (.iload_n 1, 1) := dAt tX10_faults_0_ok 12 rfl
theorem dX10_faults_23 : decode cX10_faults 23 = .ok (.invokevirtual 227, 3) := dAt tX10_faults_0_ok 13 rfl
theorem dX10_faults_26 : decode cX10_faults 26 = .ok (.ireturn, 1) := dAt tX10_faults_0_ok 14 rfl
def tX10_task_0 : List (Nat × Instr × Nat) := [(0, .aload_n 0, 1), (1, .getfield 51, 3), (4, .iload_n 1, 1), (5, .invokevirtual 95, 3), (8, .astore_n 3, 1), (9, .aload_n 3, 1), (10, .ifnonnull 5, 3), (13, .iconst (-1), 1), (14, .ireturn, 1), (15, .iload_n 2, 1), (16, .invokestatic 237, 3), (19, .ifCond .ne 6, 3), (22, .bipush (-2), 2), (24, .ireturn, 1), (25, .aload_n 3, 1), (26, .getfield 99, 3), (29, .ifCond .eq 6, 3), (32, .bipush (-3), 2), (34, .ireturn, 1), (35, .aload_n 0, 1), (36, .getfield 51, 3), (39, .invokevirtual 240, 3), (42, .ifCond .ne 13, 3), (45, .aload_n 0, 1), (46, .getfield 51, 3), (49, .invokevirtual 104, 3), (52, .ifCond .eq 6, 3), (55, .bipush (-4), 2), (57, .ireturn, 1), (58, .aload_n 0, 1), (59, .getfield 12, 3), (62, .invokevirtual 243, 3), (65, .astore 4, 2), (67, .aload_n 0, 1), (68, .getfield 22, 3), (71, .iconst 0, 1), (72, .putfield 55, 3), (75, .aload 4, 2), (77, .ifnonnull 16, 3), (80, .bipush (-100), 2), (82, .aload_n 0, 1), (83, .getfield 12, 3), (86, .getfield 116, 3), (89, .isub, 1), (90, .goto 14, 3), (93, .aload_n 0, 1), (94, .getfield 51, 3), (97, .aload 4, 2)]
theorem tX10_task_0_ok : dAll cX10_task tX10_task_0 = true := by decide +kernel
theorem dX10_task_0 : decode cX10_task 0 = .ok (.aload_n 0, 1) := dAt tX10_task_0_ok 0 rfl
theorem dX10_task_1 : decode cX10_task 1 = .ok (.getfield 51, 3) := dAt tX10_task_0_ok 1 rfl
theorem dX10_task_4 : decode cX10_task 4 = .ok (.iload_n 1, 1) := dAt tX10_task_0_ok 2 rfl
theorem dX10_task_5 : decode cX10_task 5 = .ok (.invokevirtual 95, 3) := dAt tX10_task_0_ok 3 rfl
theorem dX10_task_8 : decode cX10_task 8 = .ok (.astore_n 3, 1) := dAt tX10_task_0_ok 4 rfl
theorem dX10_task_9 : decode cX10_task 9 = .ok (.aload_n 3, 1) := dAt tX10_task_0_ok 5 rfl
theorem dX10_task_10 : decode cX10_task 10 = .ok (.ifnonnull 5, 3) := dAt tX10_task_0_ok 6 rfl
theorem dX10_task_13 : decode cX10_task 13 = .ok (.iconst (-1), 1) := dAt tX10_task_0_ok 7 rfl
theorem dX10_task_14 : decode cX10_task 14 = .ok (.ireturn, 1) := dAt tX10_task_0_ok 8 rfl
theorem dX10_task_15 : decode cX10_task 15 = .ok (.iload_n 2, 1) := dAt tX10_task_0_ok 9 rfl
theorem dX10_task_16 : decode cX10_task 16 = .ok (.invokestatic 237, 3) := dAt tX10_task_0_ok 10 rfl
theorem dX10_task_19 : decode cX10_task 19 = .ok (.ifCond .ne 6, 3) := dAt tX10_task_0_ok 11 rfl
theorem dX10_task_22 : decode cX10_task 22 = .ok (.bipush (-2), 2) := dAt tX10_task_0_ok 12 rfl
theorem dX10_task_24 : decode cX10_task 24 = .ok (.ireturn, 1) := dAt tX10_task_0_ok 13 rfl
theorem dX10_task_25 : decode cX10_task 25 = .ok (.aload_n 3, 1) := dAt tX10_task_0_ok 14 rfl
theorem dX10_task_26 : decode cX10_task 26 = .ok (.getfield 99, 3) := dAt tX10_task_0_ok 15 rfl
theorem dX10_task_29 : decode cX10_task 29 = .ok (.ifCond .eq 6, 3) := dAt tX10_task_0_ok 16 rfl
theorem dX10_task_32 : decode cX10_task 32 = .ok (.bipush (-3), 2) := dAt tX10_task_0_ok 17 rfl
theorem dX10_task_34 : decode cX10_task 34 = .ok (.ireturn, 1) := dAt tX10_task_0_ok 18 rfl
theorem dX10_task_35 : decode cX10_task 35 = .ok (.aload_n 0, 1) := dAt tX10_task_0_ok 19 rfl
theorem dX10_task_36 : decode cX10_task 36 = .ok (.getfield 51, 3) := dAt tX10_task_0_ok 20 rfl
theorem dX10_task_39 : decode cX10_task 39 = .ok (.invokevirtual 240, 3) := dAt tX10_task_0_ok 21 rfl
theorem dX10_task_42 : decode cX10_task 42 = .ok (.ifCond .ne 13, 3) := dAt tX10_task_0_ok 22 rfl
theorem dX10_task_45 : decode cX10_task 45 = .ok (.aload_n 0, 1) := dAt tX10_task_0_ok 23 rfl
theorem dX10_task_46 : decode cX10_task 46 = .ok (.getfield 51, 3) := dAt tX10_task_0_ok 24 rfl
theorem dX10_task_49 : decode cX10_task 49 = .ok (.invokevirtual 104, 3) := dAt tX10_task_0_ok 25 rfl
theorem dX10_task_52 : decode cX10_task 52 = .ok (.ifCond .eq 6, 3) := dAt tX10_task_0_ok 26 rfl
theorem dX10_task_55 : decode cX10_task 55 = .ok (.bipush (-4), 2) := dAt tX10_task_0_ok 27 rfl
theorem dX10_task_57 : decode cX10_task 57 = .ok (.ireturn, 1) := dAt tX10_task_0_ok 28 rfl
theorem dX10_task_58 : decode cX10_task 58 = .ok (.aload_n 0, 1) := dAt tX10_task_0_ok 29 rfl
theorem dX10_task_59 : decode cX10_task 59 = .ok (.getfield 12, 3) := dAt tX10_task_0_ok 30 rfl
theorem dX10_task_62 : decode cX10_task 62 = .ok (.invokevirtual 243, 3) := dAt tX10_task_0_ok 31 rfl
theorem dX10_task_65 : decode cX10_task 65 = .ok (.astore 4, 2) := dAt tX10_task_0_ok 32 rfl
theorem dX10_task_67 : decode cX10_task 67 = .ok (.aload_n 0, 1) := dAt tX10_task_0_ok 33 rfl
theorem dX10_task_68 : decode cX10_task 68 = .ok (.getfield 22, 3) := dAt tX10_task_0_ok 34 rfl
theorem dX10_task_71 : decode cX10_task 71 = .ok (.iconst 0, 1) := dAt tX10_task_0_ok 35 rfl
theorem dX10_task_72 : decode cX10_task 72 = .ok (.putfield 55, 3) := dAt tX10_task_0_ok 36 rfl
theorem dX10_task_75 : decode cX10_task 75 = .ok (.aload 4, 2) := dAt tX10_task_0_ok 37 rfl
theorem dX10_task_77 : decode cX10_task 77 = .ok (.ifnonnull 16, 3) := dAt tX10_task_0_ok 38 rfl
theorem dX10_task_80 : decode cX10_task 80 = .ok (.bipush (-100), 2) := dAt tX10_task_0_ok 39 rfl
theorem dX10_task_82 : decode cX10_task 82 = .ok (.aload_n 0, 1) := dAt tX10_task_0_ok 40 rfl
theorem dX10_task_83 : decode cX10_task 83 = .ok (.getfield 12, 3) := dAt tX10_task_0_ok 41 rfl
theorem dX10_task_86 : decode cX10_task 86 = .ok (.getfield 116, 3) := dAt tX10_task_0_ok 42 rfl
theorem dX10_task_89 : decode cX10_task 89 = .ok (.isub, 1) := dAt tX10_task_0_ok 43 rfl
theorem dX10_task_90 : decode cX10_task 90 = .ok (.goto 14, 3) := dAt tX10_task_0_ok 44 rfl
theorem dX10_task_93 : decode cX10_task 93 = .ok (.aload_n 0, 1) := dAt tX10_task_0_ok 45 rfl
theorem dX10_task_94 : decode cX10_task 94 = .ok (.getfield 51, 3) := dAt tX10_task_0_ok 46 rfl
theorem dX10_task_97 : decode cX10_task 97 = .ok (.aload 4, 2) := dAt tX10_task_0_ok 47 rfl
def tX10_task_99 : List (Nat × Instr × Nat) := [(99, .iload_n 1, 1), (100, .iload_n 2, 1), (101, .invokevirtual 246, 3), (104, .ireturn, 1)]
theorem tX10_task_99_ok : dAll cX10_task tX10_task_99 = true := by decide +kernel
theorem dX10_task_99 : decode cX10_task 99 = .ok (.iload_n 1, 1) := dAt tX10_task_99_ok 0 rfl
theorem dX10_task_100 : decode cX10_task 100 = .ok (.iload_n 2, 1) := dAt tX10_task_99_ok 1 rfl
theorem dX10_task_101 : decode cX10_task 101 = .ok (.invokevirtual 246, 3) := dAt tX10_task_99_ok 2 rfl
theorem dX10_task_104 : decode cX10_task 104 = .ok (.ireturn, 1) := dAt tX10_task_99_ok 3 rfl
def tX10_tick_0 : List (Nat × Instr × Nat) := [(0, .aload_n 0, 1), (1, .getfield 43, 3), (4, .invokevirtual 250, 3), (7, .ireturn, 1)]
theorem tX10_tick_0_ok : dAll cX10_tick tX10_tick_0 = true := by decide +kernel
theorem dX10_tick_0 : decode cX10_tick 0 = .ok (.aload_n 0, 1) := dAt tX10_tick_0_ok 0 rfl
theorem dX10_tick_1 : decode cX10_tick 1 = .ok (.getfield 43, 3) := dAt tX10_tick_0_ok 1 rfl
theorem dX10_tick_4 : decode cX10_tick 4 = .ok (.invokevirtual 250, 3) := dAt tX10_tick_0_ok 2 rfl
theorem dX10_tick_7 : decode cX10_tick 7 = .ok (.ireturn, 1) := dAt tX10_tick_0_ok 3 rfl
def tX10_run_0 : List (Nat × Instr × Nat) := [(0, .iload_n 1, 1), (1, .ifCond .lt 9, 3), (4, .iload_n 1, 1), (5, .bipush 100, 2), (7, .if_icmp .le 8, 3), (10, .bipush (-2), 2), (12, .goto 11, 3), (15, .aload_n 0, 1), (16, .getfield 43, 3), (19, .iload_n 1, 1), (20, .invokevirtual 224, 3), (23, .ireturn, 1)]
theorem tX10_run_0_ok : dAll cX10_run tX10_run_0 = true := by decide +kernel
theorem dX10_run_0 : decode cX10_run 0 = .ok (.iload_n 1, 1) := dAt tX10_run_0_ok 0 rfl
theorem dX10_run_1 : decode cX10_run 1 = .ok (.ifCond .lt 9, 3) := dAt tX10_run_0_ok 1 rfl
theorem dX10_run_4 : decode cX10_run 4 = .ok (.iload_n 1, 1) := dAt tX10_run_0_ok 2 rfl
theorem dX10_run_5 : decode cX10_run 5 = .ok (.bipush 100, 2) := dAt tX10_run_0_ok 3 rfl
theorem dX10_run_7 : decode cX10_run 7 = .ok (.if_icmp .le 8, 3) := dAt tX10_run_0_ok 4 rfl
theorem dX10_run_10 : decode cX10_run 10 = .ok (.bipush (-2), 2) := dAt tX10_run_0_ok 5 rfl
theorem dX10_run_12 : decode cX10_run 12 = .ok (.goto 11, 3) := dAt tX10_run_0_ok 6 rfl
theorem dX10_run_15 : decode cX10_run 15 = .ok (.aload_n 0, 1) := dAt tX10_run_0_ok 7 rfl
theorem dX10_run_16 : decode cX10_run 16 = .ok (.getfield 43, 3) := dAt tX10_run_0_ok 8 rfl
theorem dX10_run_19 : decode cX10_run 19 = .ok (.iload_n 1, 1) := dAt tX10_run_0_ok 9 rfl
theorem dX10_run_20 : decode cX10_run 20 = .ok (.invokevirtual 224, 3) := dAt tX10_run_0_ok 10 rfl
theorem dX10_run_23 : decode cX10_run 23 = .ok (.ireturn, 1) := dAt tX10_run_0_ok 11 rfl
def tX10_cancel_0 : List (Nat × Instr × Nat) := [(0, .aload_n 0, 1), (1, .getfield 51, 3), (4, .iload_n 1, 1), (5, .invokevirtual 79, 3), (8, .astore_n 2, 1), (9, .aload_n 2, 1), (10, .ifnonnull 5, 3), (13, .iconst (-1), 1), (14, .ireturn, 1), (15, .aload_n 2, 1), (16, .getfield 230, 3), (19, .ifCond .eq 6, 3), (22, .bipush (-3), 2), (24, .ireturn, 1), (25, .aload_n 2, 1), (26, .getfield 254, 3), (29, .ifCond .eq 7, 3), (32, .iconst 0, 1), (33, .goto 4, 3), (36, .iconst 1, 1), (37, .istore_n 3, 1), (38, .aload_n 2, 1), (39, .iconst 1, 1), (40, .putfield 254, 3), (43, .iload_n 3, 1), (44, .ireturn, 1)]
theorem tX10_cancel_0_ok : dAll cX10_cancel tX10_cancel_0 = true := by decide +kernel
theorem dX10_cancel_0 : decode cX10_cancel 0 = .ok (.aload_n 0, 1) := dAt tX10_cancel_0_ok 0 rfl
theorem dX10_cancel_1 : decode cX10_cancel 1 = .ok (.getfield 51, 3) := dAt tX10_cancel_0_ok 1 rfl
theorem dX10_cancel_4 : decode cX10_cancel 4 = .ok (.iload_n 1, 1) := dAt tX10_cancel_0_ok 2 rfl
theorem dX10_cancel_5 : decode cX10_cancel 5 = .ok (.invokevirtual 79, 3) := dAt tX10_cancel_0_ok 3 rfl
theorem dX10_cancel_8 : decode cX10_cancel 8 = .ok (.astore_n 2, 1) := dAt tX10_cancel_0_ok 4 rfl
theorem dX10_cancel_9 : decode cX10_cancel 9 = .ok (.aload_n 2, 1) := dAt tX10_cancel_0_ok 5 rfl
theorem dX10_cancel_10 : decode cX10_cancel 10 = .ok (.ifnonnull 5, 3) := dAt tX10_cancel_0_ok 6 rfl
theorem dX10_cancel_13 : decode cX10_cancel 13 = .ok (.iconst (-1), 1) := dAt tX10_cancel_0_ok 7 rfl
theorem dX10_cancel_14 : decode cX10_cancel 14 = .ok (.ireturn, 1) := dAt tX10_cancel_0_ok 8 rfl
theorem dX10_cancel_15 : decode cX10_cancel 15 = .ok (.aload_n 2, 1) := dAt tX10_cancel_0_ok 9 rfl
theorem dX10_cancel_16 : decode cX10_cancel 16 = .ok (.getfield 230, 3) := dAt tX10_cancel_0_ok 10 rfl
theorem dX10_cancel_19 : decode cX10_cancel 19 = .ok (.ifCond .eq 6, 3) := dAt tX10_cancel_0_ok 11 rfl
theorem dX10_cancel_22 : decode cX10_cancel 22 = .ok (.bipush (-3), 2) := dAt tX10_cancel_0_ok 12 rfl
theorem dX10_cancel_24 : decode cX10_cancel 24 = .ok (.ireturn, 1) := dAt tX10_cancel_0_ok 13 rfl
theorem dX10_cancel_25 : decode cX10_cancel 25 = .ok (.aload_n 2, 1) := dAt tX10_cancel_0_ok 14 rfl
theorem dX10_cancel_26 : decode cX10_cancel 26 = .ok (.getfield 254, 3) := dAt tX10_cancel_0_ok 15 rfl
theorem dX10_cancel_29 : decode cX10_cancel 29 = .ok (.ifCond .eq 7, 3) := dAt tX10_cancel_0_ok 16 rfl
theorem dX10_cancel_32 : decode cX10_cancel 32 = .ok (.iconst 0, 1) := dAt tX10_cancel_0_ok 17 rfl
theorem dX10_cancel_33 : decode cX10_cancel 33 = .ok (.goto 4, 3) := dAt tX10_cancel_0_ok 18 rfl
theorem dX10_cancel_36 : decode cX10_cancel 36 = .ok (.iconst 1, 1) := dAt tX10_cancel_0_ok 19 rfl
theorem dX10_cancel_37 : decode cX10_cancel 37 = .ok (.istore_n 3, 1) := dAt tX10_cancel_0_ok 20 rfl
theorem dX10_cancel_38 : decode cX10_cancel 38 = .ok (.aload_n 2, 1) := dAt tX10_cancel_0_ok 21 rfl
theorem dX10_cancel_39 : decode cX10_cancel 39 = .ok (.iconst 1, 1) := dAt tX10_cancel_0_ok 22 rfl
theorem dX10_cancel_40 : decode cX10_cancel 40 = .ok (.putfield 254, 3) := dAt tX10_cancel_0_ok 23 rfl
theorem dX10_cancel_43 : decode cX10_cancel 43 = .ok (.iload_n 3, 1) := dAt tX10_cancel_0_ok 24 rfl
theorem dX10_cancel_44 : decode cX10_cancel 44 = .ok (.ireturn, 1) := dAt tX10_cancel_0_ok 25 rfl
def tX10_rank_0 : List (Nat × Instr × Nat) := [(0, .aload_n 0, 1), (1, .getfield 51, 3), (4, .iload_n 1, 1), (5, .invokevirtual 79, 3), (8, .astore_n 3, 1), (9, .aload_n 3, 1), (10, .ifnonnull 5, 3), (13, .iconst (-1), 1), (14, .ireturn, 1), (15, .iload_n 2, 1), (16, .invokestatic 237, 3), (19, .ifCond .ne 6, 3), (22, .bipush (-2), 2), (24, .ireturn, 1), (25, .aload_n 3, 1), (26, .getfield 230, 3), (29, .ifCond .eq 6, 3), (32, .bipush (-3), 2), (34, .ireturn, 1), (35, .aload_n 3, 1), (36, .getfield 258, 3), (39, .istore 4, 2), (41, .aload_n 3, 1), (42, .iload_n 2, 1), (43, .putfield 258, 3), (46, .iload 4, 2), (48, .bipush 100, 2), (50, .iadd, 1), (51, .ireturn, 1)]
theorem tX10_rank_0_ok : dAll cX10_rank tX10_rank_0 = true := by decide +kernel
theorem dX10_rank_0 : decode cX10_rank 0 = .ok (.aload_n 0, 1) := dAt tX10_rank_0_ok 0 rfl
theorem dX10_rank_1 : decode cX10_rank 1 = .ok (.getfield 51, 3) := dAt tX10_rank_0_ok 1 rfl
theorem dX10_rank_4 : decode cX10_rank 4 = .ok (.iload_n 1, 1) := dAt tX10_rank_0_ok 2 rfl
theorem dX10_rank_5 : decode cX10_rank 5 = .ok (.invokevirtual 79, 3) := dAt tX10_rank_0_ok 3 rfl
theorem dX10_rank_8 : decode cX10_rank 8 = .ok (.astore_n 3, 1) := dAt tX10_rank_0_ok 4 rfl
theorem dX10_rank_9 : decode cX10_rank 9 = .ok (.aload_n 3, 1) := dAt tX10_rank_0_ok 5 rfl
theorem dX10_rank_10 : decode cX10_rank 10 = .ok (.ifnonnull 5, 3) := dAt tX10_rank_0_ok 6 rfl
theorem dX10_rank_13 : decode cX10_rank 13 = .ok (.iconst (-1), 1) := dAt tX10_rank_0_ok 7 rfl
theorem dX10_rank_14 : decode cX10_rank 14 = .ok (.ireturn, 1) := dAt tX10_rank_0_ok 8 rfl
theorem dX10_rank_15 : decode cX10_rank 15 = .ok (.iload_n 2, 1) := dAt tX10_rank_0_ok 9 rfl
theorem dX10_rank_16 : decode cX10_rank 16 = .ok (.invokestatic 237, 3) := dAt tX10_rank_0_ok 10 rfl
theorem dX10_rank_19 : decode cX10_rank 19 = .ok (.ifCond .ne 6, 3) := dAt tX10_rank_0_ok 11 rfl
theorem dX10_rank_22 : decode cX10_rank 22 = .ok (.bipush (-2), 2) := dAt tX10_rank_0_ok 12 rfl
theorem dX10_rank_24 : decode cX10_rank 24 = .ok (.ireturn, 1) := dAt tX10_rank_0_ok 13 rfl
theorem dX10_rank_25 : decode cX10_rank 25 = .ok (.aload_n 3, 1) := dAt tX10_rank_0_ok 14 rfl
theorem dX10_rank_26 : decode cX10_rank 26 = .ok (.getfield 230, 3) := dAt tX10_rank_0_ok 15 rfl
theorem dX10_rank_29 : decode cX10_rank 29 = .ok (.ifCond .eq 6, 3) := dAt tX10_rank_0_ok 16 rfl
theorem dX10_rank_32 : decode cX10_rank 32 = .ok (.bipush (-3), 2) := dAt tX10_rank_0_ok 17 rfl
theorem dX10_rank_34 : decode cX10_rank 34 = .ok (.ireturn, 1) := dAt tX10_rank_0_ok 18 rfl
theorem dX10_rank_35 : decode cX10_rank 35 = .ok (.aload_n 3, 1) := dAt tX10_rank_0_ok 19 rfl
theorem dX10_rank_36 : decode cX10_rank 36 = .ok (.getfield 258, 3) := dAt tX10_rank_0_ok 20 rfl
theorem dX10_rank_39 : decode cX10_rank 39 = .ok (.istore 4, 2) := dAt tX10_rank_0_ok 21 rfl
theorem dX10_rank_41 : decode cX10_rank 41 = .ok (.aload_n 3, 1) := dAt tX10_rank_0_ok 22 rfl
theorem dX10_rank_42 : decode cX10_rank 42 = .ok (.iload_n 2, 1) := dAt tX10_rank_0_ok 23 rfl
theorem dX10_rank_43 : decode cX10_rank 43 = .ok (.putfield 258, 3) := dAt tX10_rank_0_ok 24 rfl
theorem dX10_rank_46 : decode cX10_rank 46 = .ok (.iload 4, 2) := dAt tX10_rank_0_ok 25 rfl
theorem dX10_rank_48 : decode cX10_rank 48 = .ok (.bipush 100, 2) := dAt tX10_rank_0_ok 26 rfl
theorem dX10_rank_50 : decode cX10_rank 50 = .ok (.iadd, 1) := dAt tX10_rank_0_ok 27 rfl
theorem dX10_rank_51 : decode cX10_rank 51 = .ok (.ireturn, 1) := dAt tX10_rank_0_ok 28 rfl
def tX10_of_0 : List (Nat × Instr × Nat) := [(0, .aload_n 0, 1), (1, .getfield 51, 3), (4, .iload_n 1, 1), (5, .invokevirtual 79, 3), (8, .astore_n 3, 1), (9, .aload_n 3, 1), (10, .ifnonnull 5, 3), (13, .iconst (-1), 1), (14, .ireturn, 1), (15, .iload_n 2, 1), (16, .tableswitch 106 0 7 #[48, 53, 61, 66, 71, 80, 85, 98], 48), (64, .aload_n 3, 1), (65, .getfield 230, 3), (68, .ireturn, 1), (69, .aload_n 3, 1), (70, .getfield 258, 3), (73, .bipush 100, 2), (75, .iadd, 1), (76, .ireturn, 1), (77, .aload_n 3, 1), (78, .getfield 231, 3), (81, .ireturn, 1), (82, .aload_n 3, 1), (83, .getfield 261, 3), (86, .ireturn, 1), (87, .aload_n 0, 1), (88, .getfield 51, 3), (91, .iload_n 1, 1), (92, .invokevirtual 264, 3), (95, .ireturn, 1), (96, .aload_n 3, 1), (97, .getfield 267, 3), (100, .ireturn, 1), (101, .aload_n 3, 1), (102, .getfield 254, 3), (105, .ifCond .eq 7, 3), (108, .iconst 1, 1), (109, .goto 4, 3), (112, .iconst 0, 1), (113, .ireturn, 1), (114, .aload_n 3, 1), (115, .getfield 83, 3), (118, .invokestatic 183, 3), (121, .ireturn, 1), (122, .iconst (-1), 1), (123, .ireturn, 1)]
theorem tX10_of_0_ok : dAll cX10_of tX10_of_0 = true := by decide +kernel
theorem dX10_of_0 : decode cX10_of 0 = .ok (.aload_n 0, 1) := dAt tX10_of_0_ok 0 rfl
theorem dX10_of_1 : decode cX10_of 1 = .ok (.getfield 51, 3) := dAt tX10_of_0_ok 1 rfl
theorem dX10_of_4 : decode cX10_of 4 = .ok (.iload_n 1, 1) := dAt tX10_of_0_ok 2 rfl
theorem dX10_of_5 : decode cX10_of 5 = .ok (.invokevirtual 79, 3) := dAt tX10_of_0_ok 3 rfl
theorem dX10_of_8 : decode cX10_of 8 = .ok (.astore_n 3, 1) := dAt tX10_of_0_ok 4 rfl
theorem dX10_of_9 : decode cX10_of 9 = .ok (.aload_n 3, 1) := dAt tX10_of_0_ok 5 rfl
theorem dX10_of_10 : decode cX10_of 10 = .ok (.ifnonnull 5, 3) := dAt tX10_of_0_ok 6 rfl
theorem dX10_of_13 : decode cX10_of 13 = .ok (.iconst (-1), 1) := dAt tX10_of_0_ok 7 rfl
theorem dX10_of_14 : decode cX10_of 14 = .ok (.ireturn, 1) := dAt tX10_of_0_ok 8 rfl
theorem dX10_of_15 : decode cX10_of 15 = .ok (.iload_n 2, 1) := dAt tX10_of_0_ok 9 rfl
theorem dX10_of_16 : decode cX10_of 16 = .ok (.tableswitch 106 0 7 #[48, 53, 61, 66, 71, 80, 85, 98], 48) := dAt tX10_of_0_ok 10 rfl
theorem dX10_of_64 : decode cX10_of 64 = .ok (.aload_n 3, 1) := dAt tX10_of_0_ok 11 rfl
theorem dX10_of_65 : decode cX10_of 65 = .ok (.getfield 230, 3) := dAt tX10_of_0_ok 12 rfl
theorem dX10_of_68 : decode cX10_of 68 = .ok (.ireturn, 1) := dAt tX10_of_0_ok 13 rfl
theorem dX10_of_69 : decode cX10_of 69 = .ok (.aload_n 3, 1) := dAt tX10_of_0_ok 14 rfl
theorem dX10_of_70 : decode cX10_of 70 = .ok (.getfield 258, 3) := dAt tX10_of_0_ok 15 rfl
theorem dX10_of_73 : decode cX10_of 73 = .ok (.bipush 100, 2) := dAt tX10_of_0_ok 16 rfl
theorem dX10_of_75 : decode cX10_of 75 = .ok (.iadd, 1) := dAt tX10_of_0_ok 17 rfl
theorem dX10_of_76 : decode cX10_of 76 = .ok (.ireturn, 1) := dAt tX10_of_0_ok 18 rfl
theorem dX10_of_77 : decode cX10_of 77 = .ok (.aload_n 3, 1) := dAt tX10_of_0_ok 19 rfl
theorem dX10_of_78 : decode cX10_of 78 = .ok (.getfield 231, 3) := dAt tX10_of_0_ok 20 rfl
theorem dX10_of_81 : decode cX10_of 81 = .ok (.ireturn, 1) := dAt tX10_of_0_ok 21 rfl
theorem dX10_of_82 : decode cX10_of 82 = .ok (.aload_n 3, 1) := dAt tX10_of_0_ok 22 rfl
theorem dX10_of_83 : decode cX10_of 83 = .ok (.getfield 261, 3) := dAt tX10_of_0_ok 23 rfl
theorem dX10_of_86 : decode cX10_of 86 = .ok (.ireturn, 1) := dAt tX10_of_0_ok 24 rfl
theorem dX10_of_87 : decode cX10_of 87 = .ok (.aload_n 0, 1) := dAt tX10_of_0_ok 25 rfl
theorem dX10_of_88 : decode cX10_of 88 = .ok (.getfield 51, 3) := dAt tX10_of_0_ok 26 rfl
theorem dX10_of_91 : decode cX10_of 91 = .ok (.iload_n 1, 1) := dAt tX10_of_0_ok 27 rfl
theorem dX10_of_92 : decode cX10_of 92 = .ok (.invokevirtual 264, 3) := dAt tX10_of_0_ok 28 rfl
theorem dX10_of_95 : decode cX10_of 95 = .ok (.ireturn, 1) := dAt tX10_of_0_ok 29 rfl
theorem dX10_of_96 : decode cX10_of 96 = .ok (.aload_n 3, 1) := dAt tX10_of_0_ok 30 rfl
theorem dX10_of_97 : decode cX10_of 97 = .ok (.getfield 267, 3) := dAt tX10_of_0_ok 31 rfl
theorem dX10_of_100 : decode cX10_of 100 = .ok (.ireturn, 1) := dAt tX10_of_0_ok 32 rfl
theorem dX10_of_101 : decode cX10_of 101 = .ok (.aload_n 3, 1) := dAt tX10_of_0_ok 33 rfl
theorem dX10_of_102 : decode cX10_of 102 = .ok (.getfield 254, 3) := dAt tX10_of_0_ok 34 rfl
theorem dX10_of_105 : decode cX10_of 105 = .ok (.ifCond .eq 7, 3) := dAt tX10_of_0_ok 35 rfl
theorem dX10_of_108 : decode cX10_of 108 = .ok (.iconst 1, 1) := dAt tX10_of_0_ok 36 rfl
theorem dX10_of_109 : decode cX10_of 109 = .ok (.goto 4, 3) := dAt tX10_of_0_ok 37 rfl
theorem dX10_of_112 : decode cX10_of 112 = .ok (.iconst 0, 1) := dAt tX10_of_0_ok 38 rfl
theorem dX10_of_113 : decode cX10_of 113 = .ok (.ireturn, 1) := dAt tX10_of_0_ok 39 rfl
theorem dX10_of_114 : decode cX10_of 114 = .ok (.aload_n 3, 1) := dAt tX10_of_0_ok 40 rfl
theorem dX10_of_115 : decode cX10_of 115 = .ok (.getfield 83, 3) := dAt tX10_of_0_ok 41 rfl
theorem dX10_of_118 : decode cX10_of 118 = .ok (.invokestatic 183, 3) := dAt tX10_of_0_ok 42 rfl
theorem dX10_of_121 : decode cX10_of 121 = .ok (.ireturn, 1) := dAt tX10_of_0_ok 43 rfl
theorem dX10_of_122 : decode cX10_of 122 = .ok (.iconst (-1), 1) := dAt tX10_of_0_ok 44 rfl
theorem dX10_of_123 : decode cX10_of 123 = .ok (.ireturn, 1) := dAt tX10_of_0_ok 45 rfl
def tX10_ready_0 : List (Nat × Instr × Nat) := [(0, .iload_n 1, 1), (1, .ifCond .ge 7, 3), (4, .iconst (-1), 1), (5, .goto 11, 3), (8, .aload_n 0, 1), (9, .getfield 51, 3), (12, .iload_n 1, 1), (13, .invokevirtual 270, 3), (16, .ireturn, 1)]
theorem tX10_ready_0_ok : dAll cX10_ready tX10_ready_0 = true := by decide +kernel
theorem dX10_ready_0 : decode cX10_ready 0 = .ok (.iload_n 1, 1) := dAt tX10_ready_0_ok 0 rfl
theorem dX10_ready_1 : decode cX10_ready 1 = .ok (.ifCond .ge 7, 3) := dAt tX10_ready_0_ok 1 rfl
theorem dX10_ready_4 : decode cX10_ready 4 = .ok (.iconst (-1), 1) := dAt tX10_ready_0_ok 2 rfl
theorem dX10_ready_5 : decode cX10_ready 5 = .ok (.goto 11, 3) := dAt tX10_ready_0_ok 3 rfl
theorem dX10_ready_8 : decode cX10_ready 8 = .ok (.aload_n 0, 1) := dAt tX10_ready_0_ok 4 rfl
theorem dX10_ready_9 : decode cX10_ready 9 = .ok (.getfield 51, 3) := dAt tX10_ready_0_ok 5 rfl
theorem dX10_ready_12 : decode cX10_ready 12 = .ok (.iload_n 1, 1) := dAt tX10_ready_0_ok 6 rfl
theorem dX10_ready_13 : decode cX10_ready 13 = .ok (.invokevirtual 270, 3) := dAt tX10_ready_0_ok 7 rfl
theorem dX10_ready_16 : decode cX10_ready 16 = .ok (.ireturn, 1) := dAt tX10_ready_0_ok 8 rfl
def tX10_told_0 : List (Nat × Instr × Nat) := [(0, .iload_n 1, 1), (1, .tableswitch 139 0 9 #[55, 63, 71, 79, 88, 96, 104, 112, 123, 131], 55), (56, .aload_n 0, 1), (57, .getfield 51, 3), (60, .getfield 273, 3), (63, .ireturn, 1), (64, .aload_n 0, 1), (65, .getfield 51, 3), (68, .invokevirtual 276, 3), (71, .ireturn, 1), (72, .aload_n 0, 1), (73, .getfield 51, 3), (76, .getfield 221, 3), (79, .ireturn, 1), (80, .aload_n 0, 1), (81, .getfield 51, 3), (84, .iconst 0, 1), (85, .invokevirtual 158, 3), (88, .ireturn, 1), (89, .aload_n 0, 1), (90, .getfield 51, 3), (93, .getfield 279, 3), (96, .ireturn, 1), (97, .aload_n 0, 1), (98, .getfield 51, 3), (101, .invokevirtual 282, 3), (104, .ireturn, 1), (105, .aload_n 0, 1), (106, .getfield 51, 3), (109, .getfield 285, 3), (112, .ireturn, 1), (113, .aload_n 0, 1), (114, .getfield 51, 3), (117, .getfield 218, 3), (120, .getfield 55, 3), (123, .ireturn, 1), (124, .aload_n 0, 1), (125, .getfield 22, 3), (128, .getfield 55, 3), (131, .ireturn, 1), (132, .aload_n 0, 1), (133, .getfield 33, 3), (136, .getfield 55, 3), (139, .ireturn, 1), (140, .iconst (-1), 1), (141, .ireturn, 1)]
theorem tX10_told_0_ok : dAll cX10_told tX10_told_0 = true := by decide +kernel
theorem dX10_told_0 : decode cX10_told 0 = .ok (.iload_n 1, 1) := dAt tX10_told_0_ok 0 rfl
theorem dX10_told_1 : decode cX10_told 1 = .ok (.tableswitch 139 0 9 #[55, 63, 71, 79, 88, 96, 104, 112, 123, 131], 55) := dAt tX10_told_0_ok 1 rfl
theorem dX10_told_56 : decode cX10_told 56 = .ok (.aload_n 0, 1) := dAt tX10_told_0_ok 2 rfl
theorem dX10_told_57 : decode cX10_told 57 = .ok (.getfield 51, 3) := dAt tX10_told_0_ok 3 rfl
theorem dX10_told_60 : decode cX10_told 60 = .ok (.getfield 273, 3) := dAt tX10_told_0_ok 4 rfl
theorem dX10_told_63 : decode cX10_told 63 = .ok (.ireturn, 1) := dAt tX10_told_0_ok 5 rfl
theorem dX10_told_64 : decode cX10_told 64 = .ok (.aload_n 0, 1) := dAt tX10_told_0_ok 6 rfl
theorem dX10_told_65 : decode cX10_told 65 = .ok (.getfield 51, 3) := dAt tX10_told_0_ok 7 rfl
theorem dX10_told_68 : decode cX10_told 68 = .ok (.invokevirtual 276, 3) := dAt tX10_told_0_ok 8 rfl
theorem dX10_told_71 : decode cX10_told 71 = .ok (.ireturn, 1) := dAt tX10_told_0_ok 9 rfl
theorem dX10_told_72 : decode cX10_told 72 = .ok (.aload_n 0, 1) := dAt tX10_told_0_ok 10 rfl
theorem dX10_told_73 : decode cX10_told 73 = .ok (.getfield 51, 3) := dAt tX10_told_0_ok 11 rfl
theorem dX10_told_76 : decode cX10_told 76 = .ok (.getfield 221, 3) := dAt tX10_told_0_ok 12 rfl
theorem dX10_told_79 : decode cX10_told 79 = .ok (.ireturn, 1) := dAt tX10_told_0_ok 13 rfl
theorem dX10_told_80 : decode cX10_told 80 = .ok (.aload_n 0, 1) := dAt tX10_told_0_ok 14 rfl
theorem dX10_told_81 : decode cX10_told 81 = .ok (.getfield 51, 3) := dAt tX10_told_0_ok 15 rfl
theorem dX10_told_84 : decode cX10_told 84 = .ok (.iconst 0, 1) := dAt tX10_told_0_ok 16 rfl
theorem dX10_told_85 : decode cX10_told 85 = .ok (.invokevirtual 158, 3) := dAt tX10_told_0_ok 17 rfl
theorem dX10_told_88 : decode cX10_told 88 = .ok (.ireturn, 1) := dAt tX10_told_0_ok 18 rfl
theorem dX10_told_89 : decode cX10_told 89 = .ok (.aload_n 0, 1) := dAt tX10_told_0_ok 19 rfl
theorem dX10_told_90 : decode cX10_told 90 = .ok (.getfield 51, 3) := dAt tX10_told_0_ok 20 rfl
theorem dX10_told_93 : decode cX10_told 93 = .ok (.getfield 279, 3) := dAt tX10_told_0_ok 21 rfl
theorem dX10_told_96 : decode cX10_told 96 = .ok (.ireturn, 1) := dAt tX10_told_0_ok 22 rfl
theorem dX10_told_97 : decode cX10_told 97 = .ok (.aload_n 0, 1) := dAt tX10_told_0_ok 23 rfl
theorem dX10_told_98 : decode cX10_told 98 = .ok (.getfield 51, 3) := dAt tX10_told_0_ok 24 rfl
theorem dX10_told_101 : decode cX10_told 101 = .ok (.invokevirtual 282, 3) := dAt tX10_told_0_ok 25 rfl
theorem dX10_told_104 : decode cX10_told 104 = .ok (.ireturn, 1) := dAt tX10_told_0_ok 26 rfl
theorem dX10_told_105 : decode cX10_told 105 = .ok (.aload_n 0, 1) := dAt tX10_told_0_ok 27 rfl
theorem dX10_told_106 : decode cX10_told 106 = .ok (.getfield 51, 3) := dAt tX10_told_0_ok 28 rfl
theorem dX10_told_109 : decode cX10_told 109 = .ok (.getfield 285, 3) := dAt tX10_told_0_ok 29 rfl
theorem dX10_told_112 : decode cX10_told 112 = .ok (.ireturn, 1) := dAt tX10_told_0_ok 30 rfl
theorem dX10_told_113 : decode cX10_told 113 = .ok (.aload_n 0, 1) := dAt tX10_told_0_ok 31 rfl
theorem dX10_told_114 : decode cX10_told 114 = .ok (.getfield 51, 3) := dAt tX10_told_0_ok 32 rfl
theorem dX10_told_117 : decode cX10_told 117 = .ok (.getfield 218, 3) := dAt tX10_told_0_ok 33 rfl
theorem dX10_told_120 : decode cX10_told 120 = .ok (.getfield 55, 3) := dAt tX10_told_0_ok 34 rfl
theorem dX10_told_123 : decode cX10_told 123 = .ok (.ireturn, 1) := dAt tX10_told_0_ok 35 rfl
theorem dX10_told_124 : decode cX10_told 124 = .ok (.aload_n 0, 1) := dAt tX10_told_0_ok 36 rfl
theorem dX10_told_125 : decode cX10_told 125 = .ok (.getfield 22, 3) := dAt tX10_told_0_ok 37 rfl
theorem dX10_told_128 : decode cX10_told 128 = .ok (.getfield 55, 3) := dAt tX10_told_0_ok 38 rfl
theorem dX10_told_131 : decode cX10_told 131 = .ok (.ireturn, 1) := dAt tX10_told_0_ok 39 rfl
theorem dX10_told_132 : decode cX10_told 132 = .ok (.aload_n 0, 1) := dAt tX10_told_0_ok 40 rfl
theorem dX10_told_133 : decode cX10_told 133 = .ok (.getfield 33, 3) := dAt tX10_told_0_ok 41 rfl
theorem dX10_told_136 : decode cX10_told 136 = .ok (.getfield 55, 3) := dAt tX10_told_0_ok 42 rfl
theorem dX10_told_139 : decode cX10_told 139 = .ok (.ireturn, 1) := dAt tX10_told_0_ok 43 rfl
theorem dX10_told_140 : decode cX10_told 140 = .ok (.iconst (-1), 1) := dAt tX10_told_0_ok 44 rfl
theorem dX10_told_141 : decode cX10_told 141 = .ok (.ireturn, 1) := dAt tX10_told_0_ok 45 rfl
def tX10_row_0 : List (Nat × Instr × Nat) := [(0, .aload_n 0, 1), (1, .iload_n 1, 1), (2, .invokevirtual 286, 3), (5, .astore_n 3, 1), (6, .aload_n 3, 1), (7, .ifnonnull 5, 3), (10, .iconst (-1), 1), (11, .ireturn, 1), (12, .iload_n 2, 1), (13, .bipush 40, 2), (15, .if_icmp .le 6, 3), (18, .bipush (-2), 2), (20, .ireturn, 1), (21, .iload_n 2, 1), (22, .ifCond .ge 6, 3), (25, .bipush (-14), 2), (27, .ireturn, 1), (28, .aload_n 3, 1), (29, .iload_n 2, 1), (30, .invokevirtual 290, 3), (33, .iconst 1, 1), (34, .ireturn, 1)]
theorem tX10_row_0_ok : dAll cX10_row tX10_row_0 = true := by decide +kernel
theorem dX10_row_0 : decode cX10_row 0 = .ok (.aload_n 0, 1) := dAt tX10_row_0_ok 0 rfl
theorem dX10_row_1 : decode cX10_row 1 = .ok (.iload_n 1, 1) := dAt tX10_row_0_ok 1 rfl
theorem dX10_row_2 : decode cX10_row 2 = .ok (.invokevirtual 286, 3) := dAt tX10_row_0_ok 2 rfl
theorem dX10_row_5 : decode cX10_row 5 = .ok (.astore_n 3, 1) := dAt tX10_row_0_ok 3 rfl
theorem dX10_row_6 : decode cX10_row 6 = .ok (.aload_n 3, 1) := dAt tX10_row_0_ok 4 rfl
theorem dX10_row_7 : decode cX10_row 7 = .ok (.ifnonnull 5, 3) := dAt tX10_row_0_ok 5 rfl
theorem dX10_row_10 : decode cX10_row 10 = .ok (.iconst (-1), 1) := dAt tX10_row_0_ok 6 rfl
theorem dX10_row_11 : decode cX10_row 11 = .ok (.ireturn, 1) := dAt tX10_row_0_ok 7 rfl
theorem dX10_row_12 : decode cX10_row 12 = .ok (.iload_n 2, 1) := dAt tX10_row_0_ok 8 rfl
theorem dX10_row_13 : decode cX10_row 13 = .ok (.bipush 40, 2) := dAt tX10_row_0_ok 9 rfl
theorem dX10_row_15 : decode cX10_row 15 = .ok (.if_icmp .le 6, 3) := dAt tX10_row_0_ok 10 rfl
theorem dX10_row_18 : decode cX10_row 18 = .ok (.bipush (-2), 2) := dAt tX10_row_0_ok 11 rfl
theorem dX10_row_20 : decode cX10_row 20 = .ok (.ireturn, 1) := dAt tX10_row_0_ok 12 rfl
theorem dX10_row_21 : decode cX10_row 21 = .ok (.iload_n 2, 1) := dAt tX10_row_0_ok 13 rfl
theorem dX10_row_22 : decode cX10_row 22 = .ok (.ifCond .ge 6, 3) := dAt tX10_row_0_ok 14 rfl
theorem dX10_row_25 : decode cX10_row 25 = .ok (.bipush (-14), 2) := dAt tX10_row_0_ok 15 rfl
theorem dX10_row_27 : decode cX10_row 27 = .ok (.ireturn, 1) := dAt tX10_row_0_ok 16 rfl
theorem dX10_row_28 : decode cX10_row 28 = .ok (.aload_n 3, 1) := dAt tX10_row_0_ok 17 rfl
theorem dX10_row_29 : decode cX10_row 29 = .ok (.iload_n 2, 1) := dAt tX10_row_0_ok 18 rfl
theorem dX10_row_30 : decode cX10_row 30 = .ok (.invokevirtual 290, 3) := dAt tX10_row_0_ok 19 rfl
theorem dX10_row_33 : decode cX10_row 33 = .ok (.iconst 1, 1) := dAt tX10_row_0_ok 20 rfl
theorem dX10_row_34 : decode cX10_row 34 = .ok (.ireturn, 1) := dAt tX10_row_0_ok 21 rfl
def tX10_set_0 : List (Nat × Instr × Nat) := [(0, .aload_n 0, 1), (1, .iload_n 1, 1), (2, .invokevirtual 286, 3), (5, .astore 4, 2), (7, .aload 4, 2), (9, .ifnonnull 5, 3), (12, .iconst (-1), 1), (13, .ireturn, 1), (14, .aload 4, 2), (16, .getfield 55, 3), (19, .bipush (-11), 2), (21, .if_icmp .ne 6, 3), (24, .bipush (-11), 2), (26, .ireturn, 1), (27, .aload 4, 2), (29, .iload_n 2, 1), (30, .invokevirtual 88, 3), (33, .ifCond .ne 6, 3), (36, .bipush (-13), 2), (38, .ireturn, 1), (39, .aload 4, 2), (41, .iload_n 2, 1), (42, .iload_n 3, 1), (43, .invokevirtual 150, 3), (46, .iconst 1, 1), (47, .ireturn, 1)]
theorem tX10_set_0_ok : dAll cX10_set tX10_set_0 = true := by decide +kernel
theorem dX10_set_0 : decode cX10_set 0 = .ok (.aload_n 0, 1) := dAt tX10_set_0_ok 0 rfl
theorem dX10_set_1 : decode cX10_set 1 = .ok (.iload_n 1, 1) := dAt tX10_set_0_ok 1 rfl
theorem dX10_set_2 : decode cX10_set 2 = .ok (.invokevirtual 286, 3) := dAt tX10_set_0_ok 2 rfl
theorem dX10_set_5 : decode cX10_set 5 = .ok (.astore 4, 2) := dAt tX10_set_0_ok 3 rfl
theorem dX10_set_7 : decode cX10_set 7 = .ok (.aload 4, 2) := dAt tX10_set_0_ok 4 rfl
theorem dX10_set_9 : decode cX10_set 9 = .ok (.ifnonnull 5, 3) := dAt tX10_set_0_ok 5 rfl
theorem dX10_set_12 : decode cX10_set 12 = .ok (.iconst (-1), 1) := dAt tX10_set_0_ok 6 rfl
theorem dX10_set_13 : decode cX10_set 13 = .ok (.ireturn, 1) := dAt tX10_set_0_ok 7 rfl
theorem dX10_set_14 : decode cX10_set 14 = .ok (.aload 4, 2) := dAt tX10_set_0_ok 8 rfl
theorem dX10_set_16 : decode cX10_set 16 = .ok (.getfield 55, 3) := dAt tX10_set_0_ok 9 rfl
theorem dX10_set_19 : decode cX10_set 19 = .ok (.bipush (-11), 2) := dAt tX10_set_0_ok 10 rfl
theorem dX10_set_21 : decode cX10_set 21 = .ok (.if_icmp .ne 6, 3) := dAt tX10_set_0_ok 11 rfl
theorem dX10_set_24 : decode cX10_set 24 = .ok (.bipush (-11), 2) := dAt tX10_set_0_ok 12 rfl
theorem dX10_set_26 : decode cX10_set 26 = .ok (.ireturn, 1) := dAt tX10_set_0_ok 13 rfl
theorem dX10_set_27 : decode cX10_set 27 = .ok (.aload 4, 2) := dAt tX10_set_0_ok 14 rfl
theorem dX10_set_29 : decode cX10_set 29 = .ok (.iload_n 2, 1) := dAt tX10_set_0_ok 15 rfl
theorem dX10_set_30 : decode cX10_set 30 = .ok (.invokevirtual 88, 3) := dAt tX10_set_0_ok 16 rfl
theorem dX10_set_33 : decode cX10_set 33 = .ok (.ifCond .ne 6, 3) := dAt tX10_set_0_ok 17 rfl
theorem dX10_set_36 : decode cX10_set 36 = .ok (.bipush (-13), 2) := dAt tX10_set_0_ok 18 rfl
theorem dX10_set_38 : decode cX10_set 38 = .ok (.ireturn, 1) := dAt tX10_set_0_ok 19 rfl
theorem dX10_set_39 : decode cX10_set 39 = .ok (.aload 4, 2) := dAt tX10_set_0_ok 20 rfl
theorem dX10_set_41 : decode cX10_set 41 = .ok (.iload_n 2, 1) := dAt tX10_set_0_ok 21 rfl
theorem dX10_set_42 : decode cX10_set 42 = .ok (.iload_n 3, 1) := dAt tX10_set_0_ok 22 rfl
theorem dX10_set_43 : decode cX10_set 43 = .ok (.invokevirtual 150, 3) := dAt tX10_set_0_ok 23 rfl
theorem dX10_set_46 : decode cX10_set 46 = .ok (.iconst 1, 1) := dAt tX10_set_0_ok 24 rfl
theorem dX10_set_47 : decode cX10_set 47 = .ok (.ireturn, 1) := dAt tX10_set_0_ok 25 rfl
def tX10_get_0 : List (Nat × Instr × Nat) := [(0, .aload_n 0, 1), (1, .iload_n 1, 1), (2, .invokevirtual 286, 3), (5, .astore_n 3, 1), (6, .aload_n 3, 1), (7, .ifnull 11, 3), (10, .aload_n 3, 1), (11, .iload_n 2, 1), (12, .invokevirtual 88, 3), (15, .ifCond .ne 9, 3), (18, .ldc2_w 153, 3), (21, .goto 9, 3), (24, .aload_n 3, 1), (25, .iload_n 2, 1), (26, .invokevirtual 91, 3), (29, .i2l, 1), (30, .lreturn, 1)]
theorem tX10_get_0_ok : dAll cX10_get tX10_get_0 = true := by decide +kernel
theorem dX10_get_0 : decode cX10_get 0 = .ok (.aload_n 0, 1) := dAt tX10_get_0_ok 0 rfl
theorem dX10_get_1 : decode cX10_get 1 = .ok (.iload_n 1, 1) := dAt tX10_get_0_ok 1 rfl
theorem dX10_get_2 : decode cX10_get 2 = .ok (.invokevirtual 286, 3) := dAt tX10_get_0_ok 2 rfl
theorem dX10_get_5 : decode cX10_get 5 = .ok (.astore_n 3, 1) := dAt tX10_get_0_ok 3 rfl
theorem dX10_get_6 : decode cX10_get 6 = .ok (.aload_n 3, 1) := dAt tX10_get_0_ok 4 rfl
theorem dX10_get_7 : decode cX10_get 7 = .ok (.ifnull 11, 3) := dAt tX10_get_0_ok 5 rfl
theorem dX10_get_10 : decode cX10_get 10 = .ok (.aload_n 3, 1) := dAt tX10_get_0_ok 6 rfl
theorem dX10_get_11 : decode cX10_get 11 = .ok (.iload_n 2, 1) := dAt tX10_get_0_ok 7 rfl
theorem dX10_get_12 : decode cX10_get 12 = .ok (.invokevirtual 88, 3) := dAt tX10_get_0_ok 8 rfl
theorem dX10_get_15 : decode cX10_get 15 = .ok (.ifCond .ne 9, 3) := dAt tX10_get_0_ok 9 rfl
theorem dX10_get_18 : decode cX10_get 18 = .ok (.ldc2_w 153, 3) := dAt tX10_get_0_ok 10 rfl
theorem dX10_get_21 : decode cX10_get 21 = .ok (.goto 9, 3) := dAt tX10_get_0_ok 11 rfl
theorem dX10_get_24 : decode cX10_get 24 = .ok (.aload_n 3, 1) := dAt tX10_get_0_ok 12 rfl
theorem dX10_get_25 : decode cX10_get 25 = .ok (.iload_n 2, 1) := dAt tX10_get_0_ok 13 rfl
theorem dX10_get_26 : decode cX10_get 26 = .ok (.invokevirtual 91, 3) := dAt tX10_get_0_ok 14 rfl
theorem dX10_get_29 : decode cX10_get 29 = .ok (.i2l, 1) := dAt tX10_get_0_ok 15 rfl
theorem dX10_get_30 : decode cX10_get 30 = .ok (.lreturn, 1) := dAt tX10_get_0_ok 16 rfl
def tX10_copy_0 : List (Nat × Instr × Nat) := [(0, .aload_n 0, 1), (1, .iload_n 1, 1), (2, .invokevirtual 286, 3), (5, .astore 6, 2), (7, .aload_n 0, 1), (8, .iload_n 3, 1), (9, .invokevirtual 286, 3), (12, .astore 7, 2), (14, .aload 6, 2), (16, .ifnull 8, 3), (19, .aload 7, 2), (21, .ifnonnull 5, 3), (24, .iconst (-1), 1), (25, .ireturn, 1), (26, .aload 6, 2), (28, .getfield 55, 3), (31, .bipush (-11), 2), (33, .if_icmp .eq 13, 3), (36, .aload 7, 2), (38, .getfield 55, 3), (41, .bipush (-11), 2), (43, .if_icmp .ne 6, 3), (46, .bipush (-11), 2), (48, .ireturn, 1), (49, .aload 6, 2), (51, .iload_n 2, 1), (52, .iload 5, 2), (54, .invokevirtual 293, 3), (57, .ifCond .eq 15, 3), (60, .aload 7, 2), (62, .iload 4, 2), (64, .iload 5, 2), (66, .invokevirtual 293, 3), (69, .ifCond .ne 6, 3), (72, .bipush (-13), 2), (74, .ireturn, 1), (75, .aload 6, 2), (77, .getfield 296, 3), (80, .iload_n 2, 1), (81, .aload 7, 2), (83, .getfield 296, 3), (86, .iload 4, 2), (88, .iload 5, 2), (90, .invokestatic 300, 3), (93, .iload 5, 2), (95, .ireturn, 1)]
theorem tX10_copy_0_ok : dAll cX10_copy tX10_copy_0 = true := by decide +kernel
theorem dX10_copy_0 : decode cX10_copy 0 = .ok (.aload_n 0, 1) := dAt tX10_copy_0_ok 0 rfl
theorem dX10_copy_1 : decode cX10_copy 1 = .ok (.iload_n 1, 1) := dAt tX10_copy_0_ok 1 rfl
theorem dX10_copy_2 : decode cX10_copy 2 = .ok (.invokevirtual 286, 3) := dAt tX10_copy_0_ok 2 rfl
theorem dX10_copy_5 : decode cX10_copy 5 = .ok (.astore 6, 2) := dAt tX10_copy_0_ok 3 rfl
theorem dX10_copy_7 : decode cX10_copy 7 = .ok (.aload_n 0, 1) := dAt tX10_copy_0_ok 4 rfl
theorem dX10_copy_8 : decode cX10_copy 8 = .ok (.iload_n 3, 1) := dAt tX10_copy_0_ok 5 rfl
theorem dX10_copy_9 : decode cX10_copy 9 = .ok (.invokevirtual 286, 3) := dAt tX10_copy_0_ok 6 rfl
theorem dX10_copy_12 : decode cX10_copy 12 = .ok (.astore 7, 2) := dAt tX10_copy_0_ok 7 rfl
theorem dX10_copy_14 : decode cX10_copy 14 = .ok (.aload 6, 2) := dAt tX10_copy_0_ok 8 rfl
theorem dX10_copy_16 : decode cX10_copy 16 = .ok (.ifnull 8, 3) := dAt tX10_copy_0_ok 9 rfl
theorem dX10_copy_19 : decode cX10_copy 19 = .ok (.aload 7, 2) := dAt tX10_copy_0_ok 10 rfl
theorem dX10_copy_21 : decode cX10_copy 21 = .ok (.ifnonnull 5, 3) := dAt tX10_copy_0_ok 11 rfl
theorem dX10_copy_24 : decode cX10_copy 24 = .ok (.iconst (-1), 1) := dAt tX10_copy_0_ok 12 rfl
theorem dX10_copy_25 : decode cX10_copy 25 = .ok (.ireturn, 1) := dAt tX10_copy_0_ok 13 rfl
theorem dX10_copy_26 : decode cX10_copy 26 = .ok (.aload 6, 2) := dAt tX10_copy_0_ok 14 rfl
theorem dX10_copy_28 : decode cX10_copy 28 = .ok (.getfield 55, 3) := dAt tX10_copy_0_ok 15 rfl
theorem dX10_copy_31 : decode cX10_copy 31 = .ok (.bipush (-11), 2) := dAt tX10_copy_0_ok 16 rfl
theorem dX10_copy_33 : decode cX10_copy 33 = .ok (.if_icmp .eq 13, 3) := dAt tX10_copy_0_ok 17 rfl
theorem dX10_copy_36 : decode cX10_copy 36 = .ok (.aload 7, 2) := dAt tX10_copy_0_ok 18 rfl
theorem dX10_copy_38 : decode cX10_copy 38 = .ok (.getfield 55, 3) := dAt tX10_copy_0_ok 19 rfl
theorem dX10_copy_41 : decode cX10_copy 41 = .ok (.bipush (-11), 2) := dAt tX10_copy_0_ok 20 rfl
theorem dX10_copy_43 : decode cX10_copy 43 = .ok (.if_icmp .ne 6, 3) := dAt tX10_copy_0_ok 21 rfl
theorem dX10_copy_46 : decode cX10_copy 46 = .ok (.bipush (-11), 2) := dAt tX10_copy_0_ok 22 rfl
theorem dX10_copy_48 : decode cX10_copy 48 = .ok (.ireturn, 1) := dAt tX10_copy_0_ok 23 rfl
theorem dX10_copy_49 : decode cX10_copy 49 = .ok (.aload 6, 2) := dAt tX10_copy_0_ok 24 rfl
theorem dX10_copy_51 : decode cX10_copy 51 = .ok (.iload_n 2, 1) := dAt tX10_copy_0_ok 25 rfl
theorem dX10_copy_52 : decode cX10_copy 52 = .ok (.iload 5, 2) := dAt tX10_copy_0_ok 26 rfl
theorem dX10_copy_54 : decode cX10_copy 54 = .ok (.invokevirtual 293, 3) := dAt tX10_copy_0_ok 27 rfl
theorem dX10_copy_57 : decode cX10_copy 57 = .ok (.ifCond .eq 15, 3) := dAt tX10_copy_0_ok 28 rfl
theorem dX10_copy_60 : decode cX10_copy 60 = .ok (.aload 7, 2) := dAt tX10_copy_0_ok 29 rfl
theorem dX10_copy_62 : decode cX10_copy 62 = .ok (.iload 4, 2) := dAt tX10_copy_0_ok 30 rfl
theorem dX10_copy_64 : decode cX10_copy 64 = .ok (.iload 5, 2) := dAt tX10_copy_0_ok 31 rfl
theorem dX10_copy_66 : decode cX10_copy 66 = .ok (.invokevirtual 293, 3) := dAt tX10_copy_0_ok 32 rfl
theorem dX10_copy_69 : decode cX10_copy 69 = .ok (.ifCond .ne 6, 3) := dAt tX10_copy_0_ok 33 rfl
theorem dX10_copy_72 : decode cX10_copy 72 = .ok (.bipush (-13), 2) := dAt tX10_copy_0_ok 34 rfl
theorem dX10_copy_74 : decode cX10_copy 74 = .ok (.ireturn, 1) := dAt tX10_copy_0_ok 35 rfl
theorem dX10_copy_75 : decode cX10_copy 75 = .ok (.aload 6, 2) := dAt tX10_copy_0_ok 36 rfl
theorem dX10_copy_77 : decode cX10_copy 77 = .ok (.getfield 296, 3) := dAt tX10_copy_0_ok 37 rfl
theorem dX10_copy_80 : decode cX10_copy 80 = .ok (.iload_n 2, 1) := dAt tX10_copy_0_ok 38 rfl
theorem dX10_copy_81 : decode cX10_copy 81 = .ok (.aload 7, 2) := dAt tX10_copy_0_ok 39 rfl
theorem dX10_copy_83 : decode cX10_copy 83 = .ok (.getfield 296, 3) := dAt tX10_copy_0_ok 40 rfl
theorem dX10_copy_86 : decode cX10_copy 86 = .ok (.iload 4, 2) := dAt tX10_copy_0_ok 41 rfl
theorem dX10_copy_88 : decode cX10_copy 88 = .ok (.iload 5, 2) := dAt tX10_copy_0_ok 42 rfl
theorem dX10_copy_90 : decode cX10_copy 90 = .ok (.invokestatic 300, 3) := dAt tX10_copy_0_ok 43 rfl
theorem dX10_copy_93 : decode cX10_copy 93 = .ok (.iload 5, 2) := dAt tX10_copy_0_ok 44 rfl
theorem dX10_copy_95 : decode cX10_copy 95 = .ok (.ireturn, 1) := dAt tX10_copy_0_ok 45 rfl
def tX10_lay_0 : List (Nat × Instr × Nat) := [(0, .aload_n 0, 1), (1, .iload_n 1, 1), (2, .invokevirtual 286, 3), (5, .astore_n 3, 1), (6, .aload_n 3, 1), (7, .ifnonnull 5, 3), (10, .iconst (-1), 1), (11, .ireturn, 1), (12, .aload_n 3, 1), (13, .getfield 55, 3), (16, .bipush (-11), 2), (18, .if_icmp .ne 6, 3), (21, .bipush (-11), 2), (23, .ireturn, 1), (24, .iconst 0, 1), (25, .istore 4, 2), (27, .iload 4, 2), (29, .aload_n 0, 1), (30, .getfield 51, 3), (33, .getfield 218, 3), (36, .getfield 55, 3), (39, .if_icmp .ge 40, 3), (42, .aload_n 3, 1), (43, .iload_n 2, 1), (44, .iload 4, 2), (46, .iadd, 1), (47, .invokevirtual 88, 3), (50, .ifCond .eq 29, 3), (53, .aload_n 3, 1), (54, .iload_n 2, 1), (55, .iload 4, 2), (57, .iadd, 1), (58, .aload_n 0, 1), (59, .getfield 51, 3), (62, .getfield 218, 3), (65, .iload 4, 2), (67, .invokevirtual 91, 3), (70, .invokevirtual 150, 3), (73, .iinc 4 1, 3), (76, .goto (-49), 3), (79, .iload 4, 2), (81, .aload_n 0, 1), (82, .getfield 51, 3), (85, .getfield 218, 3), (88, .getfield 55, 3), (91, .if_icmp .ge 8, 3), (94, .bipush (-13), 2), (96, .goto 5, 3)]
theorem tX10_lay_0_ok : dAll cX10_lay tX10_lay_0 = true := by decide +kernel
theorem dX10_lay_0 : decode cX10_lay 0 = .ok (.aload_n 0, 1) := dAt tX10_lay_0_ok 0 rfl
theorem dX10_lay_1 : decode cX10_lay 1 = .ok (.iload_n 1, 1) := dAt tX10_lay_0_ok 1 rfl
theorem dX10_lay_2 : decode cX10_lay 2 = .ok (.invokevirtual 286, 3) := dAt tX10_lay_0_ok 2 rfl
theorem dX10_lay_5 : decode cX10_lay 5 = .ok (.astore_n 3, 1) := dAt tX10_lay_0_ok 3 rfl
theorem dX10_lay_6 : decode cX10_lay 6 = .ok (.aload_n 3, 1) := dAt tX10_lay_0_ok 4 rfl
theorem dX10_lay_7 : decode cX10_lay 7 = .ok (.ifnonnull 5, 3) := dAt tX10_lay_0_ok 5 rfl
theorem dX10_lay_10 : decode cX10_lay 10 = .ok (.iconst (-1), 1) := dAt tX10_lay_0_ok 6 rfl
theorem dX10_lay_11 : decode cX10_lay 11 = .ok (.ireturn, 1) := dAt tX10_lay_0_ok 7 rfl
theorem dX10_lay_12 : decode cX10_lay 12 = .ok (.aload_n 3, 1) := dAt tX10_lay_0_ok 8 rfl
theorem dX10_lay_13 : decode cX10_lay 13 = .ok (.getfield 55, 3) := dAt tX10_lay_0_ok 9 rfl
theorem dX10_lay_16 : decode cX10_lay 16 = .ok (.bipush (-11), 2) := dAt tX10_lay_0_ok 10 rfl
theorem dX10_lay_18 : decode cX10_lay 18 = .ok (.if_icmp .ne 6, 3) := dAt tX10_lay_0_ok 11 rfl
theorem dX10_lay_21 : decode cX10_lay 21 = .ok (.bipush (-11), 2) := dAt tX10_lay_0_ok 12 rfl
theorem dX10_lay_23 : decode cX10_lay 23 = .ok (.ireturn, 1) := dAt tX10_lay_0_ok 13 rfl
theorem dX10_lay_24 : decode cX10_lay 24 = .ok (.iconst 0, 1) := dAt tX10_lay_0_ok 14 rfl
theorem dX10_lay_25 : decode cX10_lay 25 = .ok (.istore 4, 2) := dAt tX10_lay_0_ok 15 rfl
theorem dX10_lay_27 : decode cX10_lay 27 = .ok (.iload 4, 2) := dAt tX10_lay_0_ok 16 rfl
theorem dX10_lay_29 : decode cX10_lay 29 = .ok (.aload_n 0, 1) := dAt tX10_lay_0_ok 17 rfl
theorem dX10_lay_30 : decode cX10_lay 30 = .ok (.getfield 51, 3) := dAt tX10_lay_0_ok 18 rfl
theorem dX10_lay_33 : decode cX10_lay 33 = .ok (.getfield 218, 3) := dAt tX10_lay_0_ok 19 rfl
theorem dX10_lay_36 : decode cX10_lay 36 = .ok (.getfield 55, 3) := dAt tX10_lay_0_ok 20 rfl
theorem dX10_lay_39 : decode cX10_lay 39 = .ok (.if_icmp .ge 40, 3) := dAt tX10_lay_0_ok 21 rfl
theorem dX10_lay_42 : decode cX10_lay 42 = .ok (.aload_n 3, 1) := dAt tX10_lay_0_ok 22 rfl
theorem dX10_lay_43 : decode cX10_lay 43 = .ok (.iload_n 2, 1) := dAt tX10_lay_0_ok 23 rfl
theorem dX10_lay_44 : decode cX10_lay 44 = .ok (.iload 4, 2) := dAt tX10_lay_0_ok 24 rfl
theorem dX10_lay_46 : decode cX10_lay 46 = .ok (.iadd, 1) := dAt tX10_lay_0_ok 25 rfl
theorem dX10_lay_47 : decode cX10_lay 47 = .ok (.invokevirtual 88, 3) := dAt tX10_lay_0_ok 26 rfl
theorem dX10_lay_50 : decode cX10_lay 50 = .ok (.ifCond .eq 29, 3) := dAt tX10_lay_0_ok 27 rfl
theorem dX10_lay_53 : decode cX10_lay 53 = .ok (.aload_n 3, 1) := dAt tX10_lay_0_ok 28 rfl
theorem dX10_lay_54 : decode cX10_lay 54 = .ok (.iload_n 2, 1) := dAt tX10_lay_0_ok 29 rfl
theorem dX10_lay_55 : decode cX10_lay 55 = .ok (.iload 4, 2) := dAt tX10_lay_0_ok 30 rfl
theorem dX10_lay_57 : decode cX10_lay 57 = .ok (.iadd, 1) := dAt tX10_lay_0_ok 31 rfl
theorem dX10_lay_58 : decode cX10_lay 58 = .ok (.aload_n 0, 1) := dAt tX10_lay_0_ok 32 rfl
theorem dX10_lay_59 : decode cX10_lay 59 = .ok (.getfield 51, 3) := dAt tX10_lay_0_ok 33 rfl
theorem dX10_lay_62 : decode cX10_lay 62 = .ok (.getfield 218, 3) := dAt tX10_lay_0_ok 34 rfl
theorem dX10_lay_65 : decode cX10_lay 65 = .ok (.iload 4, 2) := dAt tX10_lay_0_ok 35 rfl
theorem dX10_lay_67 : decode cX10_lay 67 = .ok (.invokevirtual 91, 3) := dAt tX10_lay_0_ok 36 rfl
theorem dX10_lay_70 : decode cX10_lay 70 = .ok (.invokevirtual 150, 3) := dAt tX10_lay_0_ok 37 rfl
theorem dX10_lay_73 : decode cX10_lay 73 = .ok (.iinc 4 1, 3) := dAt tX10_lay_0_ok 38 rfl
theorem dX10_lay_76 : decode cX10_lay 76 = .ok (.goto (-49), 3) := dAt tX10_lay_0_ok 39 rfl
theorem dX10_lay_79 : decode cX10_lay 79 = .ok (.iload 4, 2) := dAt tX10_lay_0_ok 40 rfl
theorem dX10_lay_81 : decode cX10_lay 81 = .ok (.aload_n 0, 1) := dAt tX10_lay_0_ok 41 rfl
theorem dX10_lay_82 : decode cX10_lay 82 = .ok (.getfield 51, 3) := dAt tX10_lay_0_ok 42 rfl
theorem dX10_lay_85 : decode cX10_lay 85 = .ok (.getfield 218, 3) := dAt tX10_lay_0_ok 43 rfl
theorem dX10_lay_88 : decode cX10_lay 88 = .ok (.getfield 55, 3) := dAt tX10_lay_0_ok 44 rfl
theorem dX10_lay_91 : decode cX10_lay 91 = .ok (.if_icmp .ge 8, 3) := dAt tX10_lay_0_ok 45 rfl
theorem dX10_lay_94 : decode cX10_lay 94 = .ok (.bipush (-13), 2) := dAt tX10_lay_0_ok 46 rfl
theorem dX10_lay_96 : decode cX10_lay 96 = .ok (.goto 5, 3) := dAt tX10_lay_0_ok 47 rfl
def tX10_lay_99 : List (Nat × Instr × Nat) := [(99, .iload 4, 2), (101, .ireturn, 1)]
theorem tX10_lay_99_ok : dAll cX10_lay tX10_lay_99 = true := by decide +kernel
theorem dX10_lay_99 : decode cX10_lay 99 = .ok (.iload 4, 2) := dAt tX10_lay_99_ok 0 rfl
theorem dX10_lay_101 : decode cX10_lay 101 = .ok (.ireturn, 1) := dAt tX10_lay_99_ok 1 rfl
def tX10_judge_0 : List (Nat × Instr × Nat) := [(0, .aload_n 0, 1), (1, .iload_n 1, 1), (2, .invokevirtual 286, 3), (5, .astore_n 3, 1), (6, .aload_n 3, 1), (7, .ifnonnull 5, 3), (10, .iconst (-1), 1), (11, .ireturn, 1), (12, .aload_n 3, 1), (13, .getfield 55, 3), (16, .bipush (-11), 2), (18, .if_icmp .ne 6, 3), (21, .bipush (-11), 2), (23, .ireturn, 1), (24, .iconst 0, 1), (25, .istore 4, 2), (27, .iload 4, 2), (29, .aload_n 0, 1), (30, .getfield 51, 3), (33, .getfield 218, 3), (36, .getfield 55, 3), (39, .if_icmp .ge 63, 3), (42, .aload_n 3, 1), (43, .iload_n 2, 1), (44, .iload 4, 2), (46, .iadd, 1), (47, .invokevirtual 88, 3), (50, .ifCond .ne 10, 3), (53, .sipush 200, 3), (56, .iload 4, 2), (58, .iadd, 1), (59, .ireturn, 1), (60, .aload_n 3, 1), (61, .iload_n 2, 1), (62, .iload 4, 2), (64, .iadd, 1), (65, .invokevirtual 91, 3), (68, .aload_n 0, 1), (69, .getfield 51, 3), (72, .getfield 218, 3), (75, .iload 4, 2), (77, .invokevirtual 91, 3), (80, .if_icmp .eq 16, 3), (83, .aload_n 0, 1), (84, .getfield 51, 3), (87, .getfield 218, 3), (90, .iload 4, 2), (92, .invokevirtual 91, 3)]
theorem tX10_judge_0_ok : dAll cX10_judge tX10_judge_0 = true := by decide +kernel
theorem dX10_judge_0 : decode cX10_judge 0 = .ok (.aload_n 0, 1) := dAt tX10_judge_0_ok 0 rfl
theorem dX10_judge_1 : decode cX10_judge 1 = .ok (.iload_n 1, 1) := dAt tX10_judge_0_ok 1 rfl
theorem dX10_judge_2 : decode cX10_judge 2 = .ok (.invokevirtual 286, 3) := dAt tX10_judge_0_ok 2 rfl
theorem dX10_judge_5 : decode cX10_judge 5 = .ok (.astore_n 3, 1) := dAt tX10_judge_0_ok 3 rfl
theorem dX10_judge_6 : decode cX10_judge 6 = .ok (.aload_n 3, 1) := dAt tX10_judge_0_ok 4 rfl
theorem dX10_judge_7 : decode cX10_judge 7 = .ok (.ifnonnull 5, 3) := dAt tX10_judge_0_ok 5 rfl
theorem dX10_judge_10 : decode cX10_judge 10 = .ok (.iconst (-1), 1) := dAt tX10_judge_0_ok 6 rfl
theorem dX10_judge_11 : decode cX10_judge 11 = .ok (.ireturn, 1) := dAt tX10_judge_0_ok 7 rfl
theorem dX10_judge_12 : decode cX10_judge 12 = .ok (.aload_n 3, 1) := dAt tX10_judge_0_ok 8 rfl
theorem dX10_judge_13 : decode cX10_judge 13 = .ok (.getfield 55, 3) := dAt tX10_judge_0_ok 9 rfl
theorem dX10_judge_16 : decode cX10_judge 16 = .ok (.bipush (-11), 2) := dAt tX10_judge_0_ok 10 rfl
theorem dX10_judge_18 : decode cX10_judge 18 = .ok (.if_icmp .ne 6, 3) := dAt tX10_judge_0_ok 11 rfl
theorem dX10_judge_21 : decode cX10_judge 21 = .ok (.bipush (-11), 2) := dAt tX10_judge_0_ok 12 rfl
theorem dX10_judge_23 : decode cX10_judge 23 = .ok (.ireturn, 1) := dAt tX10_judge_0_ok 13 rfl
theorem dX10_judge_24 : decode cX10_judge 24 = .ok (.iconst 0, 1) := dAt tX10_judge_0_ok 14 rfl
theorem dX10_judge_25 : decode cX10_judge 25 = .ok (.istore 4, 2) := dAt tX10_judge_0_ok 15 rfl
theorem dX10_judge_27 : decode cX10_judge 27 = .ok (.iload 4, 2) := dAt tX10_judge_0_ok 16 rfl
theorem dX10_judge_29 : decode cX10_judge 29 = .ok (.aload_n 0, 1) := dAt tX10_judge_0_ok 17 rfl
theorem dX10_judge_30 : decode cX10_judge 30 = .ok (.getfield 51, 3) := dAt tX10_judge_0_ok 18 rfl
theorem dX10_judge_33 : decode cX10_judge 33 = .ok (.getfield 218, 3) := dAt tX10_judge_0_ok 19 rfl
theorem dX10_judge_36 : decode cX10_judge 36 = .ok (.getfield 55, 3) := dAt tX10_judge_0_ok 20 rfl
theorem dX10_judge_39 : decode cX10_judge 39 = .ok (.if_icmp .ge 63, 3) := dAt tX10_judge_0_ok 21 rfl
theorem dX10_judge_42 : decode cX10_judge 42 = .ok (.aload_n 3, 1) := dAt tX10_judge_0_ok 22 rfl
theorem dX10_judge_43 : decode cX10_judge 43 = .ok (.iload_n 2, 1) := dAt tX10_judge_0_ok 23 rfl
theorem dX10_judge_44 : decode cX10_judge 44 = .ok (.iload 4, 2) := dAt tX10_judge_0_ok 24 rfl
theorem dX10_judge_46 : decode cX10_judge 46 = .ok (.iadd, 1) := dAt tX10_judge_0_ok 25 rfl
theorem dX10_judge_47 : decode cX10_judge 47 = .ok (.invokevirtual 88, 3) := dAt tX10_judge_0_ok 26 rfl
theorem dX10_judge_50 : decode cX10_judge 50 = .ok (.ifCond .ne 10, 3) := dAt tX10_judge_0_ok 27 rfl
theorem dX10_judge_53 : decode cX10_judge 53 = .ok (.sipush 200, 3) := dAt tX10_judge_0_ok 28 rfl
theorem dX10_judge_56 : decode cX10_judge 56 = .ok (.iload 4, 2) := dAt tX10_judge_0_ok 29 rfl
theorem dX10_judge_58 : decode cX10_judge 58 = .ok (.iadd, 1) := dAt tX10_judge_0_ok 30 rfl
theorem dX10_judge_59 : decode cX10_judge 59 = .ok (.ireturn, 1) := dAt tX10_judge_0_ok 31 rfl
theorem dX10_judge_60 : decode cX10_judge 60 = .ok (.aload_n 3, 1) := dAt tX10_judge_0_ok 32 rfl
theorem dX10_judge_61 : decode cX10_judge 61 = .ok (.iload_n 2, 1) := dAt tX10_judge_0_ok 33 rfl
theorem dX10_judge_62 : decode cX10_judge 62 = .ok (.iload 4, 2) := dAt tX10_judge_0_ok 34 rfl
theorem dX10_judge_64 : decode cX10_judge 64 = .ok (.iadd, 1) := dAt tX10_judge_0_ok 35 rfl
theorem dX10_judge_65 : decode cX10_judge 65 = .ok (.invokevirtual 91, 3) := dAt tX10_judge_0_ok 36 rfl
theorem dX10_judge_68 : decode cX10_judge 68 = .ok (.aload_n 0, 1) := dAt tX10_judge_0_ok 37 rfl
theorem dX10_judge_69 : decode cX10_judge 69 = .ok (.getfield 51, 3) := dAt tX10_judge_0_ok 38 rfl
theorem dX10_judge_72 : decode cX10_judge 72 = .ok (.getfield 218, 3) := dAt tX10_judge_0_ok 39 rfl
theorem dX10_judge_75 : decode cX10_judge 75 = .ok (.iload 4, 2) := dAt tX10_judge_0_ok 40 rfl
theorem dX10_judge_77 : decode cX10_judge 77 = .ok (.invokevirtual 91, 3) := dAt tX10_judge_0_ok 41 rfl
theorem dX10_judge_80 : decode cX10_judge 80 = .ok (.if_icmp .eq 16, 3) := dAt tX10_judge_0_ok 42 rfl
theorem dX10_judge_83 : decode cX10_judge 83 = .ok (.aload_n 0, 1) := dAt tX10_judge_0_ok 43 rfl
theorem dX10_judge_84 : decode cX10_judge 84 = .ok (.getfield 51, 3) := dAt tX10_judge_0_ok 44 rfl
theorem dX10_judge_87 : decode cX10_judge 87 = .ok (.getfield 218, 3) := dAt tX10_judge_0_ok 45 rfl
theorem dX10_judge_90 : decode cX10_judge 90 = .ok (.iload 4, 2) := dAt tX10_judge_0_ok 46 rfl
theorem dX10_judge_92 : decode cX10_judge 92 = .ok (.invokevirtual 91, 3) := dAt tX10_judge_0_ok 47 rfl
def tX10_judge_95 : List (Nat × Instr × Nat) := [(95, .ireturn, 1), (96, .iinc 4 1, 3), (99, .goto (-72), 3), (102, .bipush (-5), 2), (104, .ireturn, 1)]
theorem tX10_judge_95_ok : dAll cX10_judge tX10_judge_95 = true := by decide +kernel
theorem dX10_judge_95 : decode cX10_judge 95 = .ok (.ireturn, 1) := dAt tX10_judge_95_ok 0 rfl
theorem dX10_judge_96 : decode cX10_judge 96 = .ok (.iinc 4 1, 3) := dAt tX10_judge_95_ok 1 rfl
theorem dX10_judge_99 : decode cX10_judge 99 = .ok (.goto (-72), 3) := dAt tX10_judge_95_ok 2 rfl
theorem dX10_judge_102 : decode cX10_judge 102 = .ok (.bipush (-5), 2) := dAt tX10_judge_95_ok 3 rfl
theorem dX10_judge_104 : decode cX10_judge 104 = .ok (.ireturn, 1) := dAt tX10_judge_95_ok 4 rfl
def tX10_image_0 : List (Nat × Instr × Nat) := [(0, .aload_n 0, 1), (1, .getfield 306, 3), (4, .ifnonnull 14, 3), (7, .aload_n 0, 1), (8, .new 64, 3), (11, .dup, 1), (12, .invokespecial 309, 3), (15, .putfield 306, 3), (18, .aload_n 0, 1), (19, .getfield 306, 3), (22, .aload_n 0, 1), (23, .getfield 51, 3), (26, .invokevirtual 310, 3), (29, .aload_n 0, 1), (30, .getfield 51, 3), (33, .iconst 0, 1), (34, .invokevirtual 158, 3), (37, .ireturn, 1)]
theorem tX10_image_0_ok : dAll cX10_image tX10_image_0 = true := by decide +kernel
theorem dX10_image_0 : decode cX10_image 0 = .ok (.aload_n 0, 1) := dAt tX10_image_0_ok 0 rfl
theorem dX10_image_1 : decode cX10_image 1 = .ok (.getfield 306, 3) := dAt tX10_image_0_ok 1 rfl
theorem dX10_image_4 : decode cX10_image 4 = .ok (.ifnonnull 14, 3) := dAt tX10_image_0_ok 2 rfl
theorem dX10_image_7 : decode cX10_image 7 = .ok (.aload_n 0, 1) := dAt tX10_image_0_ok 3 rfl
theorem dX10_image_8 : decode cX10_image 8 = .ok (.new 64, 3) := dAt tX10_image_0_ok 4 rfl
theorem dX10_image_11 : decode cX10_image 11 = .ok (.dup, 1) := dAt tX10_image_0_ok 5 rfl
theorem dX10_image_12 : decode cX10_image 12 = .ok (.invokespecial 309, 3) := dAt tX10_image_0_ok 6 rfl
theorem dX10_image_15 : decode cX10_image 15 = .ok (.putfield 306, 3) := dAt tX10_image_0_ok 7 rfl
theorem dX10_image_18 : decode cX10_image 18 = .ok (.aload_n 0, 1) := dAt tX10_image_0_ok 8 rfl
theorem dX10_image_19 : decode cX10_image 19 = .ok (.getfield 306, 3) := dAt tX10_image_0_ok 9 rfl
theorem dX10_image_22 : decode cX10_image 22 = .ok (.aload_n 0, 1) := dAt tX10_image_0_ok 10 rfl
theorem dX10_image_23 : decode cX10_image 23 = .ok (.getfield 51, 3) := dAt tX10_image_0_ok 11 rfl
theorem dX10_image_26 : decode cX10_image 26 = .ok (.invokevirtual 310, 3) := dAt tX10_image_0_ok 12 rfl
theorem dX10_image_29 : decode cX10_image 29 = .ok (.aload_n 0, 1) := dAt tX10_image_0_ok 13 rfl
theorem dX10_image_30 : decode cX10_image 30 = .ok (.getfield 51, 3) := dAt tX10_image_0_ok 14 rfl
theorem dX10_image_33 : decode cX10_image 33 = .ok (.iconst 0, 1) := dAt tX10_image_0_ok 15 rfl
theorem dX10_image_34 : decode cX10_image 34 = .ok (.invokevirtual 158, 3) := dAt tX10_image_0_ok 16 rfl
theorem dX10_image_37 : decode cX10_image 37 = .ok (.ireturn, 1) := dAt tX10_image_0_ok 17 rfl
def tX10_undo_0 : List (Nat × Instr × Nat) := [(0, .aload_n 0, 1), (1, .getfield 306, 3), (4, .ifnonnull 6, 3), (7, .bipush (-3), 2), (9, .ireturn, 1), (10, .aload_n 0, 1), (11, .getfield 51, 3), (14, .aload_n 0, 1), (15, .getfield 306, 3), (18, .invokevirtual 310, 3), (21, .aload_n 0, 1), (22, .getfield 51, 3), (25, .iconst 0, 1), (26, .invokevirtual 158, 3), (29, .ireturn, 1)]
theorem tX10_undo_0_ok : dAll cX10_undo tX10_undo_0 = true := by decide +kernel
theorem dX10_undo_0 : decode cX10_undo 0 = .ok (.aload_n 0, 1) := dAt tX10_undo_0_ok 0 rfl
theorem dX10_undo_1 : decode cX10_undo 1 = .ok (.getfield 306, 3) := dAt tX10_undo_0_ok 1 rfl
theorem dX10_undo_4 : decode cX10_undo 4 = .ok (.ifnonnull 6, 3) := dAt tX10_undo_0_ok 2 rfl
theorem dX10_undo_7 : decode cX10_undo 7 = .ok (.bipush (-3), 2) := dAt tX10_undo_0_ok 3 rfl
theorem dX10_undo_9 : decode cX10_undo 9 = .ok (.ireturn, 1) := dAt tX10_undo_0_ok 4 rfl
theorem dX10_undo_10 : decode cX10_undo 10 = .ok (.aload_n 0, 1) := dAt tX10_undo_0_ok 5 rfl
theorem dX10_undo_11 : decode cX10_undo 11 = .ok (.getfield 51, 3) := dAt tX10_undo_0_ok 6 rfl
theorem dX10_undo_14 : decode cX10_undo 14 = .ok (.aload_n 0, 1) := dAt tX10_undo_0_ok 7 rfl
theorem dX10_undo_15 : decode cX10_undo 15 = .ok (.getfield 306, 3) := dAt tX10_undo_0_ok 8 rfl
theorem dX10_undo_18 : decode cX10_undo 18 = .ok (.invokevirtual 310, 3) := dAt tX10_undo_0_ok 9 rfl
theorem dX10_undo_21 : decode cX10_undo 21 = .ok (.aload_n 0, 1) := dAt tX10_undo_0_ok 10 rfl
theorem dX10_undo_22 : decode cX10_undo 22 = .ok (.getfield 51, 3) := dAt tX10_undo_0_ok 11 rfl
theorem dX10_undo_25 : decode cX10_undo 25 = .ok (.iconst 0, 1) := dAt tX10_undo_0_ok 12 rfl
theorem dX10_undo_26 : decode cX10_undo 26 = .ok (.invokevirtual 158, 3) := dAt tX10_undo_0_ok 13 rfl
theorem dX10_undo_29 : decode cX10_undo 29 = .ok (.ireturn, 1) := dAt tX10_undo_0_ok 14 rfl
def tX10_thinkerOfNow_0 : List (Nat × Instr × Nat) := [(0, .aload_n 0, 1), (1, .getfield 314, 3), (4, .ifnonnull 14, 3), (7, .aload_n 0, 1), (8, .new 40, 3), (11, .dup, 1), (12, .invokespecial 42, 3), (15, .putfield 314, 3), (18, .aload_n 0, 1), (19, .getfield 314, 3), (22, .getfield 47, 3), (25, .aload_n 0, 1), (26, .getfield 51, 3), (29, .invokevirtual 310, 3), (32, .aload_n 0, 1), (33, .getfield 314, 3), (36, .areturn, 1)]
theorem tX10_thinkerOfNow_0_ok : dAll cX10_thinkerOfNow tX10_thinkerOfNow_0 = true := by decide +kernel
theorem dX10_thinkerOfNow_0 : decode cX10_thinkerOfNow 0 = .ok (.aload_n 0, 1) := dAt tX10_thinkerOfNow_0_ok 0 rfl
theorem dX10_thinkerOfNow_1 : decode cX10_thinkerOfNow 1 = .ok (.getfield 314, 3) := dAt tX10_thinkerOfNow_0_ok 1 rfl
theorem dX10_thinkerOfNow_4 : decode cX10_thinkerOfNow 4 = .ok (.ifnonnull 14, 3) := dAt tX10_thinkerOfNow_0_ok 2 rfl
theorem dX10_thinkerOfNow_7 : decode cX10_thinkerOfNow 7 = .ok (.aload_n 0, 1) := dAt tX10_thinkerOfNow_0_ok 3 rfl
theorem dX10_thinkerOfNow_8 : decode cX10_thinkerOfNow 8 = .ok (.new 40, 3) := dAt tX10_thinkerOfNow_0_ok 4 rfl
theorem dX10_thinkerOfNow_11 : decode cX10_thinkerOfNow 11 = .ok (.dup, 1) := dAt tX10_thinkerOfNow_0_ok 5 rfl
theorem dX10_thinkerOfNow_12 : decode cX10_thinkerOfNow 12 = .ok (.invokespecial 42, 3) := dAt tX10_thinkerOfNow_0_ok 6 rfl
theorem dX10_thinkerOfNow_15 : decode cX10_thinkerOfNow 15 = .ok (.putfield 314, 3) := dAt tX10_thinkerOfNow_0_ok 7 rfl
theorem dX10_thinkerOfNow_18 : decode cX10_thinkerOfNow 18 = .ok (.aload_n 0, 1) := dAt tX10_thinkerOfNow_0_ok 8 rfl
theorem dX10_thinkerOfNow_19 : decode cX10_thinkerOfNow 19 = .ok (.getfield 314, 3) := dAt tX10_thinkerOfNow_0_ok 9 rfl
theorem dX10_thinkerOfNow_22 : decode cX10_thinkerOfNow 22 = .ok (.getfield 47, 3) := dAt tX10_thinkerOfNow_0_ok 10 rfl
theorem dX10_thinkerOfNow_25 : decode cX10_thinkerOfNow 25 = .ok (.aload_n 0, 1) := dAt tX10_thinkerOfNow_0_ok 11 rfl
theorem dX10_thinkerOfNow_26 : decode cX10_thinkerOfNow 26 = .ok (.getfield 51, 3) := dAt tX10_thinkerOfNow_0_ok 12 rfl
theorem dX10_thinkerOfNow_29 : decode cX10_thinkerOfNow 29 = .ok (.invokevirtual 310, 3) := dAt tX10_thinkerOfNow_0_ok 13 rfl
theorem dX10_thinkerOfNow_32 : decode cX10_thinkerOfNow 32 = .ok (.aload_n 0, 1) := dAt tX10_thinkerOfNow_0_ok 14 rfl
theorem dX10_thinkerOfNow_33 : decode cX10_thinkerOfNow 33 = .ok (.getfield 314, 3) := dAt tX10_thinkerOfNow_0_ok 15 rfl
theorem dX10_thinkerOfNow_36 : decode cX10_thinkerOfNow 36 = .ok (.areturn, 1) := dAt tX10_thinkerOfNow_0_ok 16 rfl
def tX10_rowAt_0 : List (Nat × Instr × Nat) := [(0, .iload_n 1, 1), (1, .ifCond .lt 12, 3), (4, .iload_n 1, 1), (5, .aload_n 0, 1), (6, .getfield 36, 3), (9, .arraylength, 1), (10, .if_icmp .lt 7, 3), (13, .aconst_null, 1), (14, .goto 9, 3), (17, .aload_n 0, 1), (18, .getfield 36, 3), (21, .iload_n 1, 1), (22, .aaload, 1), (23, .areturn, 1)]
theorem tX10_rowAt_0_ok : dAll cX10_rowAt tX10_rowAt_0 = true := by decide +kernel
theorem dX10_rowAt_0 : decode cX10_rowAt 0 = .ok (.iload_n 1, 1) := dAt tX10_rowAt_0_ok 0 rfl
theorem dX10_rowAt_1 : decode cX10_rowAt 1 = .ok (.ifCond .lt 12, 3) := dAt tX10_rowAt_0_ok 1 rfl
theorem dX10_rowAt_4 : decode cX10_rowAt 4 = .ok (.iload_n 1, 1) := dAt tX10_rowAt_0_ok 2 rfl
theorem dX10_rowAt_5 : decode cX10_rowAt 5 = .ok (.aload_n 0, 1) := dAt tX10_rowAt_0_ok 3 rfl
theorem dX10_rowAt_6 : decode cX10_rowAt 6 = .ok (.getfield 36, 3) := dAt tX10_rowAt_0_ok 4 rfl
theorem dX10_rowAt_9 : decode cX10_rowAt 9 = .ok (.arraylength, 1) := dAt tX10_rowAt_0_ok 5 rfl
theorem dX10_rowAt_10 : decode cX10_rowAt 10 = .ok (.if_icmp .lt 7, 3) := dAt tX10_rowAt_0_ok 6 rfl
theorem dX10_rowAt_13 : decode cX10_rowAt 13 = .ok (.aconst_null, 1) := dAt tX10_rowAt_0_ok 7 rfl
theorem dX10_rowAt_14 : decode cX10_rowAt 14 = .ok (.goto 9, 3) := dAt tX10_rowAt_0_ok 8 rfl
theorem dX10_rowAt_17 : decode cX10_rowAt 17 = .ok (.aload_n 0, 1) := dAt tX10_rowAt_0_ok 9 rfl
theorem dX10_rowAt_18 : decode cX10_rowAt 18 = .ok (.getfield 36, 3) := dAt tX10_rowAt_0_ok 10 rfl
theorem dX10_rowAt_21 : decode cX10_rowAt 21 = .ok (.iload_n 1, 1) := dAt tX10_rowAt_0_ok 11 rfl
theorem dX10_rowAt_22 : decode cX10_rowAt 22 = .ok (.aaload, 1) := dAt tX10_rowAt_0_ok 12 rfl
theorem dX10_rowAt_23 : decode cX10_rowAt 23 = .ok (.areturn, 1) := dAt tX10_rowAt_0_ok 13 rfl
def tX10_mayBePriority_0 : List (Nat × Instr × Nat) := [(0, .iload_n 0, 1), (1, .bipush (-99), 2), (3, .if_icmp .lt 13, 3), (6, .iload_n 0, 1), (7, .bipush 99, 2), (9, .if_icmp .gt 7, 3), (12, .iconst 1, 1), (13, .goto 4, 3), (16, .iconst 0, 1), (17, .ireturn, 1)]
theorem tX10_mayBePriority_0_ok : dAll cX10_mayBePriority tX10_mayBePriority_0 = true := by decide +kernel
theorem dX10_mayBePriority_0 : decode cX10_mayBePriority 0 = .ok (.iload_n 0, 1) := dAt tX10_mayBePriority_0_ok 0 rfl
theorem dX10_mayBePriority_1 : decode cX10_mayBePriority 1 = .ok (.bipush (-99), 2) := dAt tX10_mayBePriority_0_ok 1 rfl
theorem dX10_mayBePriority_3 : decode cX10_mayBePriority 3 = .ok (.if_icmp .lt 13, 3) := dAt tX10_mayBePriority_0_ok 2 rfl
theorem dX10_mayBePriority_6 : decode cX10_mayBePriority 6 = .ok (.iload_n 0, 1) := dAt tX10_mayBePriority_0_ok 3 rfl
theorem dX10_mayBePriority_7 : decode cX10_mayBePriority 7 = .ok (.bipush 99, 2) := dAt tX10_mayBePriority_0_ok 4 rfl
theorem dX10_mayBePriority_9 : decode cX10_mayBePriority 9 = .ok (.if_icmp .gt 7, 3) := dAt tX10_mayBePriority_0_ok 5 rfl
theorem dX10_mayBePriority_12 : decode cX10_mayBePriority 12 = .ok (.iconst 1, 1) := dAt tX10_mayBePriority_0_ok 6 rfl
theorem dX10_mayBePriority_13 : decode cX10_mayBePriority 13 = .ok (.goto 4, 3) := dAt tX10_mayBePriority_0_ok 7 rfl
theorem dX10_mayBePriority_16 : decode cX10_mayBePriority 16 = .ok (.iconst 0, 1) := dAt tX10_mayBePriority_0_ok 8 rfl
theorem dX10_mayBePriority_17 : decode cX10_mayBePriority 17 = .ok (.ireturn, 1) := dAt tX10_mayBePriority_0_ok 9 rfl
def tX10_stepsFrom_0 : List (Nat × Instr × Nat) := [(0, .iconst 0, 1), (1, .istore_n 1, 1), (2, .aload_n 0, 1), (3, .astore_n 2, 1), (4, .aload_n 2, 1), (5, .ifnull 14, 3), (8, .iinc 1 1, 3), (11, .aload_n 2, 1), (12, .getfield 317, 3), (15, .astore_n 2, 1), (16, .goto (-12), 3), (19, .iload_n 1, 1), (20, .ireturn, 1)]
theorem tX10_stepsFrom_0_ok : dAll cX10_stepsFrom tX10_stepsFrom_0 = true := by decide +kernel
theorem dX10_stepsFrom_0 : decode cX10_stepsFrom 0 = .ok (.iconst 0, 1) := dAt tX10_stepsFrom_0_ok 0 rfl
theorem dX10_stepsFrom_1 : decode cX10_stepsFrom 1 = .ok (.istore_n 1, 1) := dAt tX10_stepsFrom_0_ok 1 rfl
theorem dX10_stepsFrom_2 : decode cX10_stepsFrom 2 = .ok (.aload_n 0, 1) := dAt tX10_stepsFrom_0_ok 2 rfl
theorem dX10_stepsFrom_3 : decode cX10_stepsFrom 3 = .ok (.astore_n 2, 1) := dAt tX10_stepsFrom_0_ok 3 rfl
theorem dX10_stepsFrom_4 : decode cX10_stepsFrom 4 = .ok (.aload_n 2, 1) := dAt tX10_stepsFrom_0_ok 4 rfl
theorem dX10_stepsFrom_5 : decode cX10_stepsFrom 5 = .ok (.ifnull 14, 3) := dAt tX10_stepsFrom_0_ok 5 rfl
theorem dX10_stepsFrom_8 : decode cX10_stepsFrom 8 = .ok (.iinc 1 1, 3) := dAt tX10_stepsFrom_0_ok 6 rfl
theorem dX10_stepsFrom_11 : decode cX10_stepsFrom 11 = .ok (.aload_n 2, 1) := dAt tX10_stepsFrom_0_ok 7 rfl
theorem dX10_stepsFrom_12 : decode cX10_stepsFrom 12 = .ok (.getfield 317, 3) := dAt tX10_stepsFrom_0_ok 8 rfl
theorem dX10_stepsFrom_15 : decode cX10_stepsFrom 15 = .ok (.astore_n 2, 1) := dAt tX10_stepsFrom_0_ok 9 rfl
theorem dX10_stepsFrom_16 : decode cX10_stepsFrom 16 = .ok (.goto (-12), 3) := dAt tX10_stepsFrom_0_ok 10 rfl
theorem dX10_stepsFrom_19 : decode cX10_stepsFrom 19 = .ok (.iload_n 1, 1) := dAt tX10_stepsFrom_0_ok 11 rfl
theorem dX10_stepsFrom_20 : decode cX10_stepsFrom 20 = .ok (.ireturn, 1) := dAt tX10_stepsFrom_0_ok 12 rfl
def tX10_letterOf_0 : List (Nat × Instr × Nat) := [(0, .iload_n 2, 1), (1, .ifCond .lt 9, 3), (4, .iload_n 2, 1), (5, .bipush 7, 2), (7, .if_icmp .lt 5, 3), (10, .iconst 0, 1), (11, .ireturn, 1), (12, .lload_n 0, 1), (13, .iconst 5, 1), (14, .bipush 6, 2), (16, .iload_n 2, 1), (17, .isub, 1), (18, .imul, 1), (19, .lshr, 1), (20, .l2i, 1), (21, .bipush 31, 2), (23, .iand, 1), (24, .istore_n 3, 1), (25, .iload_n 3, 1), (26, .ifCond .ne 7, 3), (29, .iconst 0, 1), (30, .goto 9, 3), (33, .iload_n 3, 1), (34, .bipush 97, 2), (36, .iadd, 1), (37, .iconst 1, 1), (38, .isub, 1), (39, .ireturn, 1)]
theorem tX10_letterOf_0_ok : dAll cX10_letterOf tX10_letterOf_0 = true := by decide +kernel
theorem dX10_letterOf_0 : decode cX10_letterOf 0 = .ok (.iload_n 2, 1) := dAt tX10_letterOf_0_ok 0 rfl
theorem dX10_letterOf_1 : decode cX10_letterOf 1 = .ok (.ifCond .lt 9, 3) := dAt tX10_letterOf_0_ok 1 rfl
theorem dX10_letterOf_4 : decode cX10_letterOf 4 = .ok (.iload_n 2, 1) := dAt tX10_letterOf_0_ok 2 rfl
theorem dX10_letterOf_5 : decode cX10_letterOf 5 = .ok (.bipush 7, 2) := dAt tX10_letterOf_0_ok 3 rfl
theorem dX10_letterOf_7 : decode cX10_letterOf 7 = .ok (.if_icmp .lt 5, 3) := dAt tX10_letterOf_0_ok 4 rfl
theorem dX10_letterOf_10 : decode cX10_letterOf 10 = .ok (.iconst 0, 1) := dAt tX10_letterOf_0_ok 5 rfl
theorem dX10_letterOf_11 : decode cX10_letterOf 11 = .ok (.ireturn, 1) := dAt tX10_letterOf_0_ok 6 rfl
theorem dX10_letterOf_12 : decode cX10_letterOf 12 = .ok (.lload_n 0, 1) := dAt tX10_letterOf_0_ok 7 rfl
theorem dX10_letterOf_13 : decode cX10_letterOf 13 = .ok (.iconst 5, 1) := dAt tX10_letterOf_0_ok 8 rfl
theorem dX10_letterOf_14 : decode cX10_letterOf 14 = .ok (.bipush 6, 2) := dAt tX10_letterOf_0_ok 9 rfl
theorem dX10_letterOf_16 : decode cX10_letterOf 16 = .ok (.iload_n 2, 1) := dAt tX10_letterOf_0_ok 10 rfl
theorem dX10_letterOf_17 : decode cX10_letterOf 17 = .ok (.isub, 1) := dAt tX10_letterOf_0_ok 11 rfl
theorem dX10_letterOf_18 : decode cX10_letterOf 18 = .ok (.imul, 1) := dAt tX10_letterOf_0_ok 12 rfl
theorem dX10_letterOf_19 : decode cX10_letterOf 19 = .ok (.lshr, 1) := dAt tX10_letterOf_0_ok 13 rfl
theorem dX10_letterOf_20 : decode cX10_letterOf 20 = .ok (.l2i, 1) := dAt tX10_letterOf_0_ok 14 rfl
theorem dX10_letterOf_21 : decode cX10_letterOf 21 = .ok (.bipush 31, 2) := dAt tX10_letterOf_0_ok 15 rfl
theorem dX10_letterOf_23 : decode cX10_letterOf 23 = .ok (.iand, 1) := dAt tX10_letterOf_0_ok 16 rfl
theorem dX10_letterOf_24 : decode cX10_letterOf 24 = .ok (.istore_n 3, 1) := dAt tX10_letterOf_0_ok 17 rfl
theorem dX10_letterOf_25 : decode cX10_letterOf 25 = .ok (.iload_n 3, 1) := dAt tX10_letterOf_0_ok 18 rfl
theorem dX10_letterOf_26 : decode cX10_letterOf 26 = .ok (.ifCond .ne 7, 3) := dAt tX10_letterOf_0_ok 19 rfl
theorem dX10_letterOf_29 : decode cX10_letterOf 29 = .ok (.iconst 0, 1) := dAt tX10_letterOf_0_ok 20 rfl
theorem dX10_letterOf_30 : decode cX10_letterOf 30 = .ok (.goto 9, 3) := dAt tX10_letterOf_0_ok 21 rfl
theorem dX10_letterOf_33 : decode cX10_letterOf 33 = .ok (.iload_n 3, 1) := dAt tX10_letterOf_0_ok 22 rfl
theorem dX10_letterOf_34 : decode cX10_letterOf 34 = .ok (.bipush 97, 2) := dAt tX10_letterOf_0_ok 23 rfl
theorem dX10_letterOf_36 : decode cX10_letterOf 36 = .ok (.iadd, 1) := dAt tX10_letterOf_0_ok 24 rfl
theorem dX10_letterOf_37 : decode cX10_letterOf 37 = .ok (.iconst 1, 1) := dAt tX10_letterOf_0_ok 25 rfl
theorem dX10_letterOf_38 : decode cX10_letterOf 38 = .ok (.isub, 1) := dAt tX10_letterOf_0_ok 26 rfl
theorem dX10_letterOf_39 : decode cX10_letterOf 39 = .ok (.ireturn, 1) := dAt tX10_letterOf_0_ok 27 rfl
def tX10_lettersOf_0 : List (Nat × Instr × Nat) := [(0, .iconst 0, 1), (1, .istore_n 2, 1), (2, .iload_n 2, 1), (3, .bipush 7, 2), (5, .if_icmp .ge 17, 3), (8, .lload_n 0, 1), (9, .iload_n 2, 1), (10, .invokestatic 190, 3), (13, .ifCond .eq 9, 3), (16, .iinc 2 1, 3), (19, .goto (-17), 3), (22, .iload_n 2, 1), (23, .ireturn, 1)]
theorem tX10_lettersOf_0_ok : dAll cX10_lettersOf tX10_lettersOf_0 = true := by decide +kernel
theorem dX10_lettersOf_0 : decode cX10_lettersOf 0 = .ok (.iconst 0, 1) := dAt tX10_lettersOf_0_ok 0 rfl
theorem dX10_lettersOf_1 : decode cX10_lettersOf 1 = .ok (.istore_n 2, 1) := dAt tX10_lettersOf_0_ok 1 rfl
theorem dX10_lettersOf_2 : decode cX10_lettersOf 2 = .ok (.iload_n 2, 1) := dAt tX10_lettersOf_0_ok 2 rfl
theorem dX10_lettersOf_3 : decode cX10_lettersOf 3 = .ok (.bipush 7, 2) := dAt tX10_lettersOf_0_ok 3 rfl
theorem dX10_lettersOf_5 : decode cX10_lettersOf 5 = .ok (.if_icmp .ge 17, 3) := dAt tX10_lettersOf_0_ok 4 rfl
theorem dX10_lettersOf_8 : decode cX10_lettersOf 8 = .ok (.lload_n 0, 1) := dAt tX10_lettersOf_0_ok 5 rfl
theorem dX10_lettersOf_9 : decode cX10_lettersOf 9 = .ok (.iload_n 2, 1) := dAt tX10_lettersOf_0_ok 6 rfl
theorem dX10_lettersOf_10 : decode cX10_lettersOf 10 = .ok (.invokestatic 190, 3) := dAt tX10_lettersOf_0_ok 7 rfl
theorem dX10_lettersOf_13 : decode cX10_lettersOf 13 = .ok (.ifCond .eq 9, 3) := dAt tX10_lettersOf_0_ok 8 rfl
theorem dX10_lettersOf_16 : decode cX10_lettersOf 16 = .ok (.iinc 2 1, 3) := dAt tX10_lettersOf_0_ok 9 rfl
theorem dX10_lettersOf_19 : decode cX10_lettersOf 19 = .ok (.goto (-17), 3) := dAt tX10_lettersOf_0_ok 10 rfl
theorem dX10_lettersOf_22 : decode cX10_lettersOf 22 = .ok (.iload_n 2, 1) := dAt tX10_lettersOf_0_ok 11 rfl
theorem dX10_lettersOf_23 : decode cX10_lettersOf 23 = .ok (.ireturn, 1) := dAt tX10_lettersOf_0_ok 12 rfl
def tX11_init_0 : List (Nat × Instr × Nat) := [(0, .aload_n 0, 1), (1, .invokespecial 5, 3), (4, .aload_n 0, 1), (5, .sipush 2928, 3), (8, .newarray .int, 2), (10, .putfield 11, 3), (13, .aload_n 0, 1), (14, .sipush 2928, 3), (17, .newarray .int, 2), (19, .putfield 15, 3), (22, .aload_n 0, 1), (23, .sipush 2928, 3), (26, .newarray .int, 2), (28, .putfield 18, 3), (31, .aload_n 0, 1), (32, .sipush 12342, 3), (35, .newarray .int, 2), (37, .putfield 21, 3), (40, .aload_n 0, 1), (41, .bipush 120, 2), (43, .newarray .int, 2), (45, .putfield 24, 3), (48, .aload_n 0, 1), (49, .aload_n 0, 1), (50, .getfield 24, 3), (53, .putfield 27, 3), (56, .aload_n 0, 1), (57, .bipush 90, 2), (59, .newarray .int, 2), (61, .putfield 30, 3), (64, .aload_n 0, 1), (65, .bipush 120, 2), (67, .newarray .int, 2), (69, .putfield 33, 3), (72, .aload_n 0, 1), (73, .iconst 4, 1), (74, .newarray .int, 2), (76, .dup, 1), (77, .iconst 0, 1), (78, .iconst (-1), 1), (79, .iastore, 1), (80, .dup, 1), (81, .iconst 1, 1), (82, .iconst (-1), 1), (83, .iastore, 1), (84, .dup, 1), (85, .iconst 2, 1), (86, .iconst (-1), 1)]
theorem tX11_init_0_ok : dAll cX11_init tX11_init_0 = true := by decide +kernel
theorem dX11_init_0 : decode cX11_init 0 = .ok (.aload_n 0, 1) := dAt tX11_init_0_ok 0 rfl
theorem dX11_init_1 : decode cX11_init 1 = .ok (.invokespecial 5, 3) := dAt tX11_init_0_ok 1 rfl
theorem dX11_init_4 : decode cX11_init 4 = .ok (.aload_n 0, 1) := dAt tX11_init_0_ok 2 rfl
theorem dX11_init_5 : decode cX11_init 5 = .ok (.sipush 2928, 3) := dAt tX11_init_0_ok 3 rfl
theorem dX11_init_8 : decode cX11_init 8 = .ok (.newarray .int, 2) := dAt tX11_init_0_ok 4 rfl
theorem dX11_init_10 : decode cX11_init 10 = .ok (.putfield 11, 3) := dAt tX11_init_0_ok 5 rfl
theorem dX11_init_13 : decode cX11_init 13 = .ok (.aload_n 0, 1) := dAt tX11_init_0_ok 6 rfl
theorem dX11_init_14 : decode cX11_init 14 = .ok (.sipush 2928, 3) := dAt tX11_init_0_ok 7 rfl
theorem dX11_init_17 : decode cX11_init 17 = .ok (.newarray .int, 2) := dAt tX11_init_0_ok 8 rfl
theorem dX11_init_19 : decode cX11_init 19 = .ok (.putfield 15, 3) := dAt tX11_init_0_ok 9 rfl
theorem dX11_init_22 : decode cX11_init 22 = .ok (.aload_n 0, 1) := dAt tX11_init_0_ok 10 rfl
theorem dX11_init_23 : decode cX11_init 23 = .ok (.sipush 2928, 3) := dAt tX11_init_0_ok 11 rfl
theorem dX11_init_26 : decode cX11_init 26 = .ok (.newarray .int, 2) := dAt tX11_init_0_ok 12 rfl
theorem dX11_init_28 : decode cX11_init 28 = .ok (.putfield 18, 3) := dAt tX11_init_0_ok 13 rfl
theorem dX11_init_31 : decode cX11_init 31 = .ok (.aload_n 0, 1) := dAt tX11_init_0_ok 14 rfl
theorem dX11_init_32 : decode cX11_init 32 = .ok (.sipush 12342, 3) := dAt tX11_init_0_ok 15 rfl
theorem dX11_init_35 : decode cX11_init 35 = .ok (.newarray .int, 2) := dAt tX11_init_0_ok 16 rfl
theorem dX11_init_37 : decode cX11_init 37 = .ok (.putfield 21, 3) := dAt tX11_init_0_ok 17 rfl
theorem dX11_init_40 : decode cX11_init 40 = .ok (.aload_n 0, 1) := dAt tX11_init_0_ok 18 rfl
theorem dX11_init_41 : decode cX11_init 41 = .ok (.bipush 120, 2) := dAt tX11_init_0_ok 19 rfl
theorem dX11_init_43 : decode cX11_init 43 = .ok (.newarray .int, 2) := dAt tX11_init_0_ok 20 rfl
theorem dX11_init_45 : decode cX11_init 45 = .ok (.putfield 24, 3) := dAt tX11_init_0_ok 21 rfl
theorem dX11_init_48 : decode cX11_init 48 = .ok (.aload_n 0, 1) := dAt tX11_init_0_ok 22 rfl
theorem dX11_init_49 : decode cX11_init 49 = .ok (.aload_n 0, 1) := dAt tX11_init_0_ok 23 rfl
theorem dX11_init_50 : decode cX11_init 50 = .ok (.getfield 24, 3) := dAt tX11_init_0_ok 24 rfl
theorem dX11_init_53 : decode cX11_init 53 = .ok (.putfield 27, 3) := dAt tX11_init_0_ok 25 rfl
theorem dX11_init_56 : decode cX11_init 56 = .ok (.aload_n 0, 1) := dAt tX11_init_0_ok 26 rfl
theorem dX11_init_57 : decode cX11_init 57 = .ok (.bipush 90, 2) := dAt tX11_init_0_ok 27 rfl
theorem dX11_init_59 : decode cX11_init 59 = .ok (.newarray .int, 2) := dAt tX11_init_0_ok 28 rfl
theorem dX11_init_61 : decode cX11_init 61 = .ok (.putfield 30, 3) := dAt tX11_init_0_ok 29 rfl
theorem dX11_init_64 : decode cX11_init 64 = .ok (.aload_n 0, 1) := dAt tX11_init_0_ok 30 rfl
theorem dX11_init_65 : decode cX11_init 65 = .ok (.bipush 120, 2) := dAt tX11_init_0_ok 31 rfl
theorem dX11_init_67 : decode cX11_init 67 = .ok (.newarray .int, 2) := dAt tX11_init_0_ok 32 rfl
theorem dX11_init_69 : decode cX11_init 69 = .ok (.putfield 33, 3) := dAt tX11_init_0_ok 33 rfl
theorem dX11_init_72 : decode cX11_init 72 = .ok (.aload_n 0, 1) := dAt tX11_init_0_ok 34 rfl
theorem dX11_init_73 : decode cX11_init 73 = .ok (.iconst 4, 1) := dAt tX11_init_0_ok 35 rfl
theorem dX11_init_74 : decode cX11_init 74 = .ok (.newarray .int, 2) := dAt tX11_init_0_ok 36 rfl
theorem dX11_init_76 : decode cX11_init 76 = .ok (.dup, 1) := dAt tX11_init_0_ok 37 rfl
theorem dX11_init_77 : decode cX11_init 77 = .ok (.iconst 0, 1) := dAt tX11_init_0_ok 38 rfl
theorem dX11_init_78 : decode cX11_init 78 = .ok (.iconst (-1), 1) := dAt tX11_init_0_ok 39 rfl
theorem dX11_init_79 : decode cX11_init 79 = .ok (.iastore, 1) := dAt tX11_init_0_ok 40 rfl
theorem dX11_init_80 : decode cX11_init 80 = .ok (.dup, 1) := dAt tX11_init_0_ok 41 rfl
theorem dX11_init_81 : decode cX11_init 81 = .ok (.iconst 1, 1) := dAt tX11_init_0_ok 42 rfl
theorem dX11_init_82 : decode cX11_init 82 = .ok (.iconst (-1), 1) := dAt tX11_init_0_ok 43 rfl
theorem dX11_init_83 : decode cX11_init 83 = .ok (.iastore, 1) := dAt tX11_init_0_ok 44 rfl
theorem dX11_init_84 : decode cX11_init 84 = .ok (.dup, 1) := dAt tX11_init_0_ok 45 rfl
theorem dX11_init_85 : decode cX11_init 85 = .ok (.iconst 2, 1) := dAt tX11_init_0_ok 46 rfl
theorem dX11_init_86 : decode cX11_init 86 = .ok (.iconst (-1), 1) := dAt tX11_init_0_ok 47 rfl
def tX11_init_87 : List (Nat × Instr × Nat) := [(87, .iastore, 1), (88, .dup, 1), (89, .iconst 3, 1), (90, .iconst (-1), 1), (91, .iastore, 1), (92, .putfield 36, 3), (95, .aload_n 0, 1), (96, .sipush 160, 3), (99, .newarray .int, 2), (101, .putfield 39, 3), (104, .aload_n 0, 1), (105, .getfield 11, 3), (108, .iconst 0, 1), (109, .iconst 1, 1), (110, .iastore, 1), (111, .aload_n 0, 1), (112, .getfield 11, 3), (115, .iconst 0, 1), (116, .iconst 1, 1), (117, .invokestatic 42, 3), (120, .bipush (-5), 2), (122, .iastore, 1), (123, .aload_n 0, 1), (124, .getfield 11, 3), (127, .iconst 0, 1), (128, .iconst 3, 1), (129, .invokestatic 42, 3), (132, .bipush (-5), 2), (134, .iastore, 1), (135, .return_, 1)]
theorem tX11_init_87_ok : dAll cX11_init tX11_init_87 = true := by decide +kernel
theorem dX11_init_87 : decode cX11_init 87 = .ok (.iastore, 1) := dAt tX11_init_87_ok 0 rfl
theorem dX11_init_88 : decode cX11_init 88 = .ok (.dup, 1) := dAt tX11_init_87_ok 1 rfl
theorem dX11_init_89 : decode cX11_init 89 = .ok (.iconst 3, 1) := dAt tX11_init_87_ok 2 rfl
theorem dX11_init_90 : decode cX11_init 90 = .ok (.iconst (-1), 1) := dAt tX11_init_87_ok 3 rfl
theorem dX11_init_91 : decode cX11_init 91 = .ok (.iastore, 1) := dAt tX11_init_87_ok 4 rfl
theorem dX11_init_92 : decode cX11_init 92 = .ok (.putfield 36, 3) := dAt tX11_init_87_ok 5 rfl
theorem dX11_init_95 : decode cX11_init 95 = .ok (.aload_n 0, 1) := dAt tX11_init_87_ok 6 rfl
theorem dX11_init_96 : decode cX11_init 96 = .ok (.sipush 160, 3) := dAt tX11_init_87_ok 7 rfl
theorem dX11_init_99 : decode cX11_init 99 = .ok (.newarray .int, 2) := dAt tX11_init_87_ok 8 rfl
theorem dX11_init_101 : decode cX11_init 101 = .ok (.putfield 39, 3) := dAt tX11_init_87_ok 9 rfl
theorem dX11_init_104 : decode cX11_init 104 = .ok (.aload_n 0, 1) := dAt tX11_init_87_ok 10 rfl
theorem dX11_init_105 : decode cX11_init 105 = .ok (.getfield 11, 3) := dAt tX11_init_87_ok 11 rfl
theorem dX11_init_108 : decode cX11_init 108 = .ok (.iconst 0, 1) := dAt tX11_init_87_ok 12 rfl
theorem dX11_init_109 : decode cX11_init 109 = .ok (.iconst 1, 1) := dAt tX11_init_87_ok 13 rfl
theorem dX11_init_110 : decode cX11_init 110 = .ok (.iastore, 1) := dAt tX11_init_87_ok 14 rfl
theorem dX11_init_111 : decode cX11_init 111 = .ok (.aload_n 0, 1) := dAt tX11_init_87_ok 15 rfl
theorem dX11_init_112 : decode cX11_init 112 = .ok (.getfield 11, 3) := dAt tX11_init_87_ok 16 rfl
theorem dX11_init_115 : decode cX11_init 115 = .ok (.iconst 0, 1) := dAt tX11_init_87_ok 17 rfl
theorem dX11_init_116 : decode cX11_init 116 = .ok (.iconst 1, 1) := dAt tX11_init_87_ok 18 rfl
theorem dX11_init_117 : decode cX11_init 117 = .ok (.invokestatic 42, 3) := dAt tX11_init_87_ok 19 rfl
theorem dX11_init_120 : decode cX11_init 120 = .ok (.bipush (-5), 2) := dAt tX11_init_87_ok 20 rfl
theorem dX11_init_122 : decode cX11_init 122 = .ok (.iastore, 1) := dAt tX11_init_87_ok 21 rfl
theorem dX11_init_123 : decode cX11_init 123 = .ok (.aload_n 0, 1) := dAt tX11_init_87_ok 22 rfl
theorem dX11_init_124 : decode cX11_init 124 = .ok (.getfield 11, 3) := dAt tX11_init_87_ok 23 rfl
theorem dX11_init_127 : decode cX11_init 127 = .ok (.iconst 0, 1) := dAt tX11_init_87_ok 24 rfl
theorem dX11_init_128 : decode cX11_init 128 = .ok (.iconst 3, 1) := dAt tX11_init_87_ok 25 rfl
theorem dX11_init_129 : decode cX11_init 129 = .ok (.invokestatic 42, 3) := dAt tX11_init_87_ok 26 rfl
theorem dX11_init_132 : decode cX11_init 132 = .ok (.bipush (-5), 2) := dAt tX11_init_87_ok 27 rfl
theorem dX11_init_134 : decode cX11_init 134 = .ok (.iastore, 1) := dAt tX11_init_87_ok 28 rfl
theorem dX11_init_135 : decode cX11_init 135 = .ok (.return_, 1) := dAt tX11_init_87_ok 29 rfl
def tX11_isIn_0 : List (Nat × Instr × Nat) := [(0, .iload_n 0, 1), (1, .iload_n 1, 1), (2, .if_icmp .lt 12, 3), (5, .iload_n 0, 1), (6, .iload_n 2, 1), (7, .if_icmp .gt 7, 3), (10, .iconst 1, 1), (11, .goto 4, 3), (14, .iconst 0, 1), (15, .ireturn, 1)]
theorem tX11_isIn_0_ok : dAll cX11_isIn tX11_isIn_0 = true := by decide +kernel
theorem dX11_isIn_0 : decode cX11_isIn 0 = .ok (.iload_n 0, 1) := dAt tX11_isIn_0_ok 0 rfl
theorem dX11_isIn_1 : decode cX11_isIn 1 = .ok (.iload_n 1, 1) := dAt tX11_isIn_0_ok 1 rfl
theorem dX11_isIn_2 : decode cX11_isIn 2 = .ok (.if_icmp .lt 12, 3) := dAt tX11_isIn_0_ok 2 rfl
theorem dX11_isIn_5 : decode cX11_isIn 5 = .ok (.iload_n 0, 1) := dAt tX11_isIn_0_ok 3 rfl
theorem dX11_isIn_6 : decode cX11_isIn 6 = .ok (.iload_n 2, 1) := dAt tX11_isIn_0_ok 4 rfl
theorem dX11_isIn_7 : decode cX11_isIn 7 = .ok (.if_icmp .gt 7, 3) := dAt tX11_isIn_0_ok 5 rfl
theorem dX11_isIn_10 : decode cX11_isIn 10 = .ok (.iconst 1, 1) := dAt tX11_isIn_0_ok 6 rfl
theorem dX11_isIn_11 : decode cX11_isIn 11 = .ok (.goto 4, 3) := dAt tX11_isIn_0_ok 7 rfl
theorem dX11_isIn_14 : decode cX11_isIn 14 = .ok (.iconst 0, 1) := dAt tX11_isIn_0_ok 8 rfl
theorem dX11_isIn_15 : decode cX11_isIn 15 = .ok (.ireturn, 1) := dAt tX11_isIn_0_ok 9 rfl
def tX11_ofScope_0 : List (Nat × Instr × Nat) := [(0, .bipush 18, 2), (2, .iconst 4, 1), (3, .iload_n 0, 1), (4, .imul, 1), (5, .iadd, 1), (6, .iload_n 1, 1), (7, .iadd, 1), (8, .ireturn, 1)]
theorem tX11_ofScope_0_ok : dAll cX11_ofScope tX11_ofScope_0 = true := by decide +kernel
theorem dX11_ofScope_0 : decode cX11_ofScope 0 = .ok (.bipush 18, 2) := dAt tX11_ofScope_0_ok 0 rfl
theorem dX11_ofScope_2 : decode cX11_ofScope 2 = .ok (.iconst 4, 1) := dAt tX11_ofScope_0_ok 1 rfl
theorem dX11_ofScope_3 : decode cX11_ofScope 3 = .ok (.iload_n 0, 1) := dAt tX11_ofScope_0_ok 2 rfl
theorem dX11_ofScope_4 : decode cX11_ofScope 4 = .ok (.imul, 1) := dAt tX11_ofScope_0_ok 3 rfl
theorem dX11_ofScope_5 : decode cX11_ofScope 5 = .ok (.iadd, 1) := dAt tX11_ofScope_0_ok 4 rfl
theorem dX11_ofScope_6 : decode cX11_ofScope 6 = .ok (.iload_n 1, 1) := dAt tX11_ofScope_0_ok 5 rfl
theorem dX11_ofScope_7 : decode cX11_ofScope 7 = .ok (.iadd, 1) := dAt tX11_ofScope_0_ok 6 rfl
theorem dX11_ofScope_8 : decode cX11_ofScope 8 = .ok (.ireturn, 1) := dAt tX11_ofScope_0_ok 7 rfl
def tX11_ofThing_0 : List (Nat × Instr × Nat) := [(0, .sipush 258, 3), (3, .bipush 14, 2), (5, .iload_n 0, 1), (6, .imul, 1), (7, .iadd, 1), (8, .iload_n 1, 1), (9, .iadd, 1), (10, .iload_n 2, 1), (11, .iadd, 1), (12, .ireturn, 1)]
theorem tX11_ofThing_0_ok : dAll cX11_ofThing tX11_ofThing_0 = true := by decide +kernel
theorem dX11_ofThing_0 : decode cX11_ofThing 0 = .ok (.sipush 258, 3) := dAt tX11_ofThing_0_ok 0 rfl
theorem dX11_ofThing_3 : decode cX11_ofThing 3 = .ok (.bipush 14, 2) := dAt tX11_ofThing_0_ok 1 rfl
theorem dX11_ofThing_5 : decode cX11_ofThing 5 = .ok (.iload_n 0, 1) := dAt tX11_ofThing_0_ok 2 rfl
theorem dX11_ofThing_6 : decode cX11_ofThing 6 = .ok (.imul, 1) := dAt tX11_ofThing_0_ok 3 rfl
theorem dX11_ofThing_7 : decode cX11_ofThing 7 = .ok (.iadd, 1) := dAt tX11_ofThing_0_ok 4 rfl
theorem dX11_ofThing_8 : decode cX11_ofThing 8 = .ok (.iload_n 1, 1) := dAt tX11_ofThing_0_ok 5 rfl
theorem dX11_ofThing_9 : decode cX11_ofThing 9 = .ok (.iadd, 1) := dAt tX11_ofThing_0_ok 6 rfl
theorem dX11_ofThing_10 : decode cX11_ofThing 10 = .ok (.iload_n 2, 1) := dAt tX11_ofThing_0_ok 7 rfl
theorem dX11_ofThing_11 : decode cX11_ofThing 11 = .ok (.iadd, 1) := dAt tX11_ofThing_0_ok 8 rfl
theorem dX11_ofThing_12 : decode cX11_ofThing 12 = .ok (.ireturn, 1) := dAt tX11_ofThing_0_ok 9 rfl
def tX11_ofTask_0 : List (Nat × Instr × Nat) := [(0, .sipush 1608, 3), (3, .bipush 72, 2), (5, .iload_n 0, 1), (6, .imul, 1), (7, .iadd, 1), (8, .iload_n 1, 1), (9, .iadd, 1), (10, .iload_n 2, 1), (11, .iadd, 1), (12, .ireturn, 1)]
theorem tX11_ofTask_0_ok : dAll cX11_ofTask tX11_ofTask_0 = true := by decide +kernel
theorem dX11_ofTask_0 : decode cX11_ofTask 0 = .ok (.sipush 1608, 3) := dAt tX11_ofTask_0_ok 0 rfl
theorem dX11_ofTask_3 : decode cX11_ofTask 3 = .ok (.bipush 72, 2) := dAt tX11_ofTask_0_ok 1 rfl
theorem dX11_ofTask_5 : decode cX11_ofTask 5 = .ok (.iload_n 0, 1) := dAt tX11_ofTask_0_ok 2 rfl
theorem dX11_ofTask_6 : decode cX11_ofTask 6 = .ok (.imul, 1) := dAt tX11_ofTask_0_ok 3 rfl
theorem dX11_ofTask_7 : decode cX11_ofTask 7 = .ok (.iadd, 1) := dAt tX11_ofTask_0_ok 4 rfl
theorem dX11_ofTask_8 : decode cX11_ofTask 8 = .ok (.iload_n 1, 1) := dAt tX11_ofTask_0_ok 5 rfl
theorem dX11_ofTask_9 : decode cX11_ofTask 9 = .ok (.iadd, 1) := dAt tX11_ofTask_0_ok 6 rfl
theorem dX11_ofTask_10 : decode cX11_ofTask 10 = .ok (.iload_n 2, 1) := dAt tX11_ofTask_0_ok 7 rfl
theorem dX11_ofTask_11 : decode cX11_ofTask 11 = .ok (.iadd, 1) := dAt tX11_ofTask_0_ok 8 rfl
theorem dX11_ofTask_12 : decode cX11_ofTask 12 = .ok (.ireturn, 1) := dAt tX11_ofTask_0_ok 9 rfl
def tX11_isScope_0 : List (Nat × Instr × Nat) := [(0, .iload_n 1, 1), (1, .iconst 0, 1), (2, .aload_n 0, 1), (3, .getfield 11, 3), (6, .iconst 0, 1), (7, .iaload, 1), (8, .iconst 1, 1), (9, .isub, 1), (10, .invokestatic 46, 3), (13, .ireturn, 1)]
theorem tX11_isScope_0_ok : dAll cX11_isScope tX11_isScope_0 = true := by decide +kernel
theorem dX11_isScope_0 : decode cX11_isScope 0 = .ok (.iload_n 1, 1) := dAt tX11_isScope_0_ok 0 rfl
theorem dX11_isScope_1 : decode cX11_isScope 1 = .ok (.iconst 0, 1) := dAt tX11_isScope_0_ok 1 rfl
theorem dX11_isScope_2 : decode cX11_isScope 2 = .ok (.aload_n 0, 1) := dAt tX11_isScope_0_ok 2 rfl
theorem dX11_isScope_3 : decode cX11_isScope 3 = .ok (.getfield 11, 3) := dAt tX11_isScope_0_ok 3 rfl
theorem dX11_isScope_6 : decode cX11_isScope 6 = .ok (.iconst 0, 1) := dAt tX11_isScope_0_ok 4 rfl
theorem dX11_isScope_7 : decode cX11_isScope 7 = .ok (.iaload, 1) := dAt tX11_isScope_0_ok 5 rfl
theorem dX11_isScope_8 : decode cX11_isScope 8 = .ok (.iconst 1, 1) := dAt tX11_isScope_0_ok 6 rfl
theorem dX11_isScope_9 : decode cX11_isScope 9 = .ok (.isub, 1) := dAt tX11_isScope_0_ok 7 rfl
theorem dX11_isScope_10 : decode cX11_isScope 10 = .ok (.invokestatic 46, 3) := dAt tX11_isScope_0_ok 8 rfl
theorem dX11_isScope_13 : decode cX11_isScope 13 = .ok (.ireturn, 1) := dAt tX11_isScope_0_ok 9 rfl
def tX11_isThing_0 : List (Nat × Instr × Nat) := [(0, .iload_n 1, 1), (1, .iconst 0, 1), (2, .aload_n 0, 1), (3, .getfield 11, 3), (6, .iconst 1, 1), (7, .iaload, 1), (8, .iconst 1, 1), (9, .isub, 1), (10, .invokestatic 46, 3), (13, .ireturn, 1)]
theorem tX11_isThing_0_ok : dAll cX11_isThing tX11_isThing_0 = true := by decide +kernel
theorem dX11_isThing_0 : decode cX11_isThing 0 = .ok (.iload_n 1, 1) := dAt tX11_isThing_0_ok 0 rfl
theorem dX11_isThing_1 : decode cX11_isThing 1 = .ok (.iconst 0, 1) := dAt tX11_isThing_0_ok 1 rfl
theorem dX11_isThing_2 : decode cX11_isThing 2 = .ok (.aload_n 0, 1) := dAt tX11_isThing_0_ok 2 rfl
theorem dX11_isThing_3 : decode cX11_isThing 3 = .ok (.getfield 11, 3) := dAt tX11_isThing_0_ok 3 rfl
theorem dX11_isThing_6 : decode cX11_isThing 6 = .ok (.iconst 1, 1) := dAt tX11_isThing_0_ok 4 rfl
theorem dX11_isThing_7 : decode cX11_isThing 7 = .ok (.iaload, 1) := dAt tX11_isThing_0_ok 5 rfl
theorem dX11_isThing_8 : decode cX11_isThing 8 = .ok (.iconst 1, 1) := dAt tX11_isThing_0_ok 6 rfl
theorem dX11_isThing_9 : decode cX11_isThing 9 = .ok (.isub, 1) := dAt tX11_isThing_0_ok 7 rfl
theorem dX11_isThing_10 : decode cX11_isThing 10 = .ok (.invokestatic 46, 3) := dAt tX11_isThing_0_ok 8 rfl
theorem dX11_isThing_13 : decode cX11_isThing 13 = .ok (.ireturn, 1) := dAt tX11_isThing_0_ok 9 rfl
def tX11_isTask_0 : List (Nat × Instr × Nat) := [(0, .iload_n 1, 1), (1, .iconst 0, 1), (2, .aload_n 0, 1), (3, .getfield 11, 3), (6, .iconst 3, 1), (7, .iaload, 1), (8, .iconst 1, 1), (9, .isub, 1), (10, .invokestatic 46, 3), (13, .ireturn, 1)]
theorem tX11_isTask_0_ok : dAll cX11_isTask tX11_isTask_0 = true := by decide +kernel
theorem dX11_isTask_0 : decode cX11_isTask 0 = .ok (.iload_n 1, 1) := dAt tX11_isTask_0_ok 0 rfl
theorem dX11_isTask_1 : decode cX11_isTask 1 = .ok (.iconst 0, 1) := dAt tX11_isTask_0_ok 1 rfl
theorem dX11_isTask_2 : decode cX11_isTask 2 = .ok (.aload_n 0, 1) := dAt tX11_isTask_0_ok 2 rfl
theorem dX11_isTask_3 : decode cX11_isTask 3 = .ok (.getfield 11, 3) := dAt tX11_isTask_0_ok 3 rfl
theorem dX11_isTask_6 : decode cX11_isTask 6 = .ok (.iconst 3, 1) := dAt tX11_isTask_0_ok 4 rfl
theorem dX11_isTask_7 : decode cX11_isTask 7 = .ok (.iaload, 1) := dAt tX11_isTask_0_ok 5 rfl
theorem dX11_isTask_8 : decode cX11_isTask 8 = .ok (.iconst 1, 1) := dAt tX11_isTask_0_ok 6 rfl
theorem dX11_isTask_9 : decode cX11_isTask 9 = .ok (.isub, 1) := dAt tX11_isTask_0_ok 7 rfl
theorem dX11_isTask_10 : decode cX11_isTask 10 = .ok (.invokestatic 46, 3) := dAt tX11_isTask_0_ok 8 rfl
theorem dX11_isTask_13 : decode cX11_isTask 13 = .ok (.ireturn, 1) := dAt tX11_isTask_0_ok 9 rfl
def tX11_isOpen_0 : List (Nat × Instr × Nat) := [(0, .aload_n 0, 1), (1, .iload_n 1, 1), (2, .invokevirtual 50, 3), (5, .ifCond .eq 20, 3), (8, .aload_n 0, 1), (9, .getfield 11, 3), (12, .iload_n 1, 1), (13, .iconst 0, 1), (14, .invokestatic 42, 3), (17, .iaload, 1), (18, .ifCond .ne 7, 3), (21, .iconst 1, 1), (22, .goto 4, 3), (25, .iconst 0, 1), (26, .ireturn, 1)]
theorem tX11_isOpen_0_ok : dAll cX11_isOpen tX11_isOpen_0 = true := by decide +kernel
theorem dX11_isOpen_0 : decode cX11_isOpen 0 = .ok (.aload_n 0, 1) := dAt tX11_isOpen_0_ok 0 rfl
theorem dX11_isOpen_1 : decode cX11_isOpen 1 = .ok (.iload_n 1, 1) := dAt tX11_isOpen_0_ok 1 rfl
theorem dX11_isOpen_2 : decode cX11_isOpen 2 = .ok (.invokevirtual 50, 3) := dAt tX11_isOpen_0_ok 2 rfl
theorem dX11_isOpen_5 : decode cX11_isOpen 5 = .ok (.ifCond .eq 20, 3) := dAt tX11_isOpen_0_ok 3 rfl
theorem dX11_isOpen_8 : decode cX11_isOpen 8 = .ok (.aload_n 0, 1) := dAt tX11_isOpen_0_ok 4 rfl
theorem dX11_isOpen_9 : decode cX11_isOpen 9 = .ok (.getfield 11, 3) := dAt tX11_isOpen_0_ok 5 rfl
theorem dX11_isOpen_12 : decode cX11_isOpen 12 = .ok (.iload_n 1, 1) := dAt tX11_isOpen_0_ok 6 rfl
theorem dX11_isOpen_13 : decode cX11_isOpen 13 = .ok (.iconst 0, 1) := dAt tX11_isOpen_0_ok 7 rfl
theorem dX11_isOpen_14 : decode cX11_isOpen 14 = .ok (.invokestatic 42, 3) := dAt tX11_isOpen_0_ok 8 rfl
theorem dX11_isOpen_17 : decode cX11_isOpen 17 = .ok (.iaload, 1) := dAt tX11_isOpen_0_ok 9 rfl
theorem dX11_isOpen_18 : decode cX11_isOpen 18 = .ok (.ifCond .ne 7, 3) := dAt tX11_isOpen_0_ok 10 rfl
theorem dX11_isOpen_21 : decode cX11_isOpen 21 = .ok (.iconst 1, 1) := dAt tX11_isOpen_0_ok 11 rfl
theorem dX11_isOpen_22 : decode cX11_isOpen 22 = .ok (.goto 4, 3) := dAt tX11_isOpen_0_ok 12 rfl
theorem dX11_isOpen_25 : decode cX11_isOpen 25 = .ok (.iconst 0, 1) := dAt tX11_isOpen_0_ok 13 rfl
theorem dX11_isOpen_26 : decode cX11_isOpen 26 = .ok (.ireturn, 1) := dAt tX11_isOpen_0_ok 14 rfl
def tX11_isHeld_0 : List (Nat × Instr × Nat) := [(0, .aload_n 0, 1), (1, .getfield 11, 3), (4, .iload_n 1, 1), (5, .iconst 0, 1), (6, .iconst 0, 1), (7, .invokestatic 54, 3), (10, .iaload, 1), (11, .ifCond .ne 7, 3), (14, .iconst 1, 1), (15, .goto 4, 3), (18, .iconst 0, 1), (19, .ireturn, 1)]
theorem tX11_isHeld_0_ok : dAll cX11_isHeld tX11_isHeld_0 = true := by decide +kernel
theorem dX11_isHeld_0 : decode cX11_isHeld 0 = .ok (.aload_n 0, 1) := dAt tX11_isHeld_0_ok 0 rfl
theorem dX11_isHeld_1 : decode cX11_isHeld 1 = .ok (.getfield 11, 3) := dAt tX11_isHeld_0_ok 1 rfl
theorem dX11_isHeld_4 : decode cX11_isHeld 4 = .ok (.iload_n 1, 1) := dAt tX11_isHeld_0_ok 2 rfl
theorem dX11_isHeld_5 : decode cX11_isHeld 5 = .ok (.iconst 0, 1) := dAt tX11_isHeld_0_ok 3 rfl
theorem dX11_isHeld_6 : decode cX11_isHeld 6 = .ok (.iconst 0, 1) := dAt tX11_isHeld_0_ok 4 rfl
theorem dX11_isHeld_7 : decode cX11_isHeld 7 = .ok (.invokestatic 54, 3) := dAt tX11_isHeld_0_ok 5 rfl
theorem dX11_isHeld_10 : decode cX11_isHeld 10 = .ok (.iaload, 1) := dAt tX11_isHeld_0_ok 6 rfl
theorem dX11_isHeld_11 : decode cX11_isHeld 11 = .ok (.ifCond .ne 7, 3) := dAt tX11_isHeld_0_ok 7 rfl
theorem dX11_isHeld_14 : decode cX11_isHeld 14 = .ok (.iconst 1, 1) := dAt tX11_isHeld_0_ok 8 rfl
theorem dX11_isHeld_15 : decode cX11_isHeld 15 = .ok (.goto 4, 3) := dAt tX11_isHeld_0_ok 9 rfl
theorem dX11_isHeld_18 : decode cX11_isHeld 18 = .ok (.iconst 0, 1) := dAt tX11_isHeld_0_ok 10 rfl
theorem dX11_isHeld_19 : decode cX11_isHeld 19 = .ok (.ireturn, 1) := dAt tX11_isHeld_0_ok 11 rfl
def tX11_isReady_0 : List (Nat × Instr × Nat) := [(0, .aload_n 0, 1), (1, .getfield 11, 3), (4, .iload_n 1, 1), (5, .iconst 2, 1), (6, .iconst 0, 1), (7, .invokestatic 58, 3), (10, .iaload, 1), (11, .ifCond .ne 7, 3), (14, .iconst 1, 1), (15, .goto 4, 3), (18, .iconst 0, 1), (19, .ireturn, 1)]
theorem tX11_isReady_0_ok : dAll cX11_isReady tX11_isReady_0 = true := by decide +kernel
theorem dX11_isReady_0 : decode cX11_isReady 0 = .ok (.aload_n 0, 1) := dAt tX11_isReady_0_ok 0 rfl
theorem dX11_isReady_1 : decode cX11_isReady 1 = .ok (.getfield 11, 3) := dAt tX11_isReady_0_ok 1 rfl
theorem dX11_isReady_4 : decode cX11_isReady 4 = .ok (.iload_n 1, 1) := dAt tX11_isReady_0_ok 2 rfl
theorem dX11_isReady_5 : decode cX11_isReady 5 = .ok (.iconst 2, 1) := dAt tX11_isReady_0_ok 3 rfl
theorem dX11_isReady_6 : decode cX11_isReady 6 = .ok (.iconst 0, 1) := dAt tX11_isReady_0_ok 4 rfl
theorem dX11_isReady_7 : decode cX11_isReady 7 = .ok (.invokestatic 58, 3) := dAt tX11_isReady_0_ok 5 rfl
theorem dX11_isReady_10 : decode cX11_isReady 10 = .ok (.iaload, 1) := dAt tX11_isReady_0_ok 6 rfl
theorem dX11_isReady_11 : decode cX11_isReady 11 = .ok (.ifCond .ne 7, 3) := dAt tX11_isReady_0_ok 7 rfl
theorem dX11_isReady_14 : decode cX11_isReady 14 = .ok (.iconst 1, 1) := dAt tX11_isReady_0_ok 8 rfl
theorem dX11_isReady_15 : decode cX11_isReady 15 = .ok (.goto 4, 3) := dAt tX11_isReady_0_ok 9 rfl
theorem dX11_isReady_18 : decode cX11_isReady 18 = .ok (.iconst 0, 1) := dAt tX11_isReady_0_ok 10 rfl
theorem dX11_isReady_19 : decode cX11_isReady 19 = .ok (.ireturn, 1) := dAt tX11_isReady_0_ok 11 rfl
def tX11_copies_0 : List (Nat × Instr × Nat) := [(0, .iconst 0, 1), (1, .istore_n 2, 1), (2, .iload_n 2, 1), (3, .sipush 2928, 3), (6, .if_icmp .ge 15, 3), (9, .aload_n 1, 1), (10, .iload_n 2, 1), (11, .aload_n 0, 1), (12, .iload_n 2, 1), (13, .iaload, 1), (14, .iastore, 1), (15, .iinc 2 1, 3), (18, .goto (-16), 3), (21, .return_, 1)]
theorem tX11_copies_0_ok : dAll cX11_copies tX11_copies_0 = true := by decide +kernel
theorem dX11_copies_0 : decode cX11_copies 0 = .ok (.iconst 0, 1) := dAt tX11_copies_0_ok 0 rfl
theorem dX11_copies_1 : decode cX11_copies 1 = .ok (.istore_n 2, 1) := dAt tX11_copies_0_ok 1 rfl
theorem dX11_copies_2 : decode cX11_copies 2 = .ok (.iload_n 2, 1) := dAt tX11_copies_0_ok 2 rfl
theorem dX11_copies_3 : decode cX11_copies 3 = .ok (.sipush 2928, 3) := dAt tX11_copies_0_ok 3 rfl
theorem dX11_copies_6 : decode cX11_copies 6 = .ok (.if_icmp .ge 15, 3) := dAt tX11_copies_0_ok 4 rfl
theorem dX11_copies_9 : decode cX11_copies 9 = .ok (.aload_n 1, 1) := dAt tX11_copies_0_ok 5 rfl
theorem dX11_copies_10 : decode cX11_copies 10 = .ok (.iload_n 2, 1) := dAt tX11_copies_0_ok 6 rfl
theorem dX11_copies_11 : decode cX11_copies 11 = .ok (.aload_n 0, 1) := dAt tX11_copies_0_ok 7 rfl
theorem dX11_copies_12 : decode cX11_copies 12 = .ok (.iload_n 2, 1) := dAt tX11_copies_0_ok 8 rfl
theorem dX11_copies_13 : decode cX11_copies 13 = .ok (.iaload, 1) := dAt tX11_copies_0_ok 9 rfl
theorem dX11_copies_14 : decode cX11_copies 14 = .ok (.iastore, 1) := dAt tX11_copies_0_ok 10 rfl
theorem dX11_copies_15 : decode cX11_copies 15 = .ok (.iinc 2 1, 3) := dAt tX11_copies_0_ok 11 rfl
theorem dX11_copies_18 : decode cX11_copies 18 = .ok (.goto (-16), 3) := dAt tX11_copies_0_ok 12 rfl
theorem dX11_copies_21 : decode cX11_copies 21 = .ok (.return_, 1) := dAt tX11_copies_0_ok 13 rfl
def tX11_stamp_0 : List (Nat × Instr × Nat) := [(0, .aload_n 0, 1), (1, .getfield 11, 3), (4, .bipush 6, 2), (6, .dup2, 1), (7, .iaload, 1), (8, .iconst 1, 1), (9, .iadd, 1), (10, .iastore, 1), (11, .aload_n 0, 1), (12, .getfield 11, 3), (15, .bipush 6, 2), (17, .iaload, 1), (18, .ireturn, 1)]
theorem tX11_stamp_0_ok : dAll cX11_stamp tX11_stamp_0 = true := by decide +kernel
theorem dX11_stamp_0 : decode cX11_stamp 0 = .ok (.aload_n 0, 1) := dAt tX11_stamp_0_ok 0 rfl
theorem dX11_stamp_1 : decode cX11_stamp 1 = .ok (.getfield 11, 3) := dAt tX11_stamp_0_ok 1 rfl
theorem dX11_stamp_4 : decode cX11_stamp 4 = .ok (.bipush 6, 2) := dAt tX11_stamp_0_ok 2 rfl
theorem dX11_stamp_6 : decode cX11_stamp 6 = .ok (.dup2, 1) := dAt tX11_stamp_0_ok 3 rfl
theorem dX11_stamp_7 : decode cX11_stamp 7 = .ok (.iaload, 1) := dAt tX11_stamp_0_ok 4 rfl
theorem dX11_stamp_8 : decode cX11_stamp 8 = .ok (.iconst 1, 1) := dAt tX11_stamp_0_ok 5 rfl
theorem dX11_stamp_9 : decode cX11_stamp 9 = .ok (.iadd, 1) := dAt tX11_stamp_0_ok 6 rfl
theorem dX11_stamp_10 : decode cX11_stamp 10 = .ok (.iastore, 1) := dAt tX11_stamp_0_ok 7 rfl
theorem dX11_stamp_11 : decode cX11_stamp 11 = .ok (.aload_n 0, 1) := dAt tX11_stamp_0_ok 8 rfl
theorem dX11_stamp_12 : decode cX11_stamp 12 = .ok (.getfield 11, 3) := dAt tX11_stamp_0_ok 9 rfl
theorem dX11_stamp_15 : decode cX11_stamp 15 = .ok (.bipush 6, 2) := dAt tX11_stamp_0_ok 10 rfl
theorem dX11_stamp_17 : decode cX11_stamp 17 = .ok (.iaload, 1) := dAt tX11_stamp_0_ok 11 rfl
theorem dX11_stamp_18 : decode cX11_stamp 18 = .ok (.ireturn, 1) := dAt tX11_stamp_0_ok 12 rfl
def tX11_feed_0 : List (Nat × Instr × Nat) := [(0, .iload_n 1, 1), (1, .iconst 1, 1), (2, .bipush 127, 2), (4, .invokestatic 46, 3), (7, .ifCond .ne 6, 3), (10, .bipush (-2), 2), (12, .ireturn, 1), (13, .aload_n 0, 1), (14, .getfield 61, 3), (17, .bipush 120, 2), (19, .if_icmp .ne 6, 3), (22, .bipush (-4), 2), (24, .ireturn, 1), (25, .aload_n 0, 1), (26, .getfield 24, 3), (29, .aload_n 0, 1), (30, .getfield 61, 3), (33, .iload_n 1, 1), (34, .iastore, 1), (35, .aload_n 0, 1), (36, .dup, 1), (37, .getfield 61, 3), (40, .iconst 1, 1), (41, .iadd, 1), (42, .putfield 61, 3), (45, .aload_n 0, 1), (46, .getfield 61, 3), (49, .ireturn, 1)]
theorem tX11_feed_0_ok : dAll cX11_feed tX11_feed_0 = true := by decide +kernel
theorem dX11_feed_0 : decode cX11_feed 0 = .ok (.iload_n 1, 1) := dAt tX11_feed_0_ok 0 rfl
theorem dX11_feed_1 : decode cX11_feed 1 = .ok (.iconst 1, 1) := dAt tX11_feed_0_ok 1 rfl
theorem dX11_feed_2 : decode cX11_feed 2 = .ok (.bipush 127, 2) := dAt tX11_feed_0_ok 2 rfl
theorem dX11_feed_4 : decode cX11_feed 4 = .ok (.invokestatic 46, 3) := dAt tX11_feed_0_ok 3 rfl
theorem dX11_feed_7 : decode cX11_feed 7 = .ok (.ifCond .ne 6, 3) := dAt tX11_feed_0_ok 4 rfl
theorem dX11_feed_10 : decode cX11_feed 10 = .ok (.bipush (-2), 2) := dAt tX11_feed_0_ok 5 rfl
theorem dX11_feed_12 : decode cX11_feed 12 = .ok (.ireturn, 1) := dAt tX11_feed_0_ok 6 rfl
theorem dX11_feed_13 : decode cX11_feed 13 = .ok (.aload_n 0, 1) := dAt tX11_feed_0_ok 7 rfl
theorem dX11_feed_14 : decode cX11_feed 14 = .ok (.getfield 61, 3) := dAt tX11_feed_0_ok 8 rfl
theorem dX11_feed_17 : decode cX11_feed 17 = .ok (.bipush 120, 2) := dAt tX11_feed_0_ok 9 rfl
theorem dX11_feed_19 : decode cX11_feed 19 = .ok (.if_icmp .ne 6, 3) := dAt tX11_feed_0_ok 10 rfl
theorem dX11_feed_22 : decode cX11_feed 22 = .ok (.bipush (-4), 2) := dAt tX11_feed_0_ok 11 rfl
theorem dX11_feed_24 : decode cX11_feed 24 = .ok (.ireturn, 1) := dAt tX11_feed_0_ok 12 rfl
theorem dX11_feed_25 : decode cX11_feed 25 = .ok (.aload_n 0, 1) := dAt tX11_feed_0_ok 13 rfl
theorem dX11_feed_26 : decode cX11_feed 26 = .ok (.getfield 24, 3) := dAt tX11_feed_0_ok 14 rfl
theorem dX11_feed_29 : decode cX11_feed 29 = .ok (.aload_n 0, 1) := dAt tX11_feed_0_ok 15 rfl
theorem dX11_feed_30 : decode cX11_feed 30 = .ok (.getfield 61, 3) := dAt tX11_feed_0_ok 16 rfl
theorem dX11_feed_33 : decode cX11_feed 33 = .ok (.iload_n 1, 1) := dAt tX11_feed_0_ok 17 rfl
theorem dX11_feed_34 : decode cX11_feed 34 = .ok (.iastore, 1) := dAt tX11_feed_0_ok 18 rfl
theorem dX11_feed_35 : decode cX11_feed 35 = .ok (.aload_n 0, 1) := dAt tX11_feed_0_ok 19 rfl
theorem dX11_feed_36 : decode cX11_feed 36 = .ok (.dup, 1) := dAt tX11_feed_0_ok 20 rfl
theorem dX11_feed_37 : decode cX11_feed 37 = .ok (.getfield 61, 3) := dAt tX11_feed_0_ok 21 rfl
theorem dX11_feed_40 : decode cX11_feed 40 = .ok (.iconst 1, 1) := dAt tX11_feed_0_ok 22 rfl
theorem dX11_feed_41 : decode cX11_feed 41 = .ok (.iadd, 1) := dAt tX11_feed_0_ok 23 rfl
theorem dX11_feed_42 : decode cX11_feed 42 = .ok (.putfield 61, 3) := dAt tX11_feed_0_ok 24 rfl
theorem dX11_feed_45 : decode cX11_feed 45 = .ok (.aload_n 0, 1) := dAt tX11_feed_0_ok 25 rfl
theorem dX11_feed_46 : decode cX11_feed 46 = .ok (.getfield 61, 3) := dAt tX11_feed_0_ok 26 rfl
theorem dX11_feed_49 : decode cX11_feed 49 = .ok (.ireturn, 1) := dAt tX11_feed_0_ok 27 rfl
def tX11_clear_0 : List (Nat × Instr × Nat) := [(0, .aload_n 0, 1), (1, .getfield 61, 3), (4, .istore_n 1, 1), (5, .aload_n 0, 1), (6, .iconst 0, 1), (7, .putfield 61, 3), (10, .iload_n 1, 1), (11, .ireturn, 1)]
theorem tX11_clear_0_ok : dAll cX11_clear tX11_clear_0 = true := by decide +kernel
theorem dX11_clear_0 : decode cX11_clear 0 = .ok (.aload_n 0, 1) := dAt tX11_clear_0_ok 0 rfl
theorem dX11_clear_1 : decode cX11_clear 1 = .ok (.getfield 61, 3) := dAt tX11_clear_0_ok 1 rfl
theorem dX11_clear_4 : decode cX11_clear 4 = .ok (.istore_n 1, 1) := dAt tX11_clear_0_ok 2 rfl
theorem dX11_clear_5 : decode cX11_clear 5 = .ok (.aload_n 0, 1) := dAt tX11_clear_0_ok 3 rfl
theorem dX11_clear_6 : decode cX11_clear 6 = .ok (.iconst 0, 1) := dAt tX11_clear_0_ok 4 rfl
theorem dX11_clear_7 : decode cX11_clear 7 = .ok (.putfield 61, 3) := dAt tX11_clear_0_ok 5 rfl
theorem dX11_clear_10 : decode cX11_clear 10 = .ok (.iload_n 1, 1) := dAt tX11_clear_0_ok 6 rfl
theorem dX11_clear_11 : decode cX11_clear 11 = .ok (.ireturn, 1) := dAt tX11_clear_0_ok 7 rfl
def tX11_here_0 : List (Nat × Instr × Nat) := [(0, .aload_n 0, 1), (1, .getfield 65, 3), (4, .aload_n 0, 1), (5, .getfield 68, 3), (8, .if_icmp .ge 15, 3), (11, .aload_n 0, 1), (12, .getfield 27, 3), (15, .aload_n 0, 1), (16, .getfield 65, 3), (19, .iaload, 1), (20, .goto 4, 3), (23, .iconst (-1), 1), (24, .ireturn, 1)]
theorem tX11_here_0_ok : dAll cX11_here tX11_here_0 = true := by decide +kernel
theorem dX11_here_0 : decode cX11_here 0 = .ok (.aload_n 0, 1) := dAt tX11_here_0_ok 0 rfl
theorem dX11_here_1 : decode cX11_here 1 = .ok (.getfield 65, 3) := dAt tX11_here_0_ok 1 rfl
theorem dX11_here_4 : decode cX11_here 4 = .ok (.aload_n 0, 1) := dAt tX11_here_0_ok 2 rfl
theorem dX11_here_5 : decode cX11_here 5 = .ok (.getfield 68, 3) := dAt tX11_here_0_ok 3 rfl
theorem dX11_here_8 : decode cX11_here 8 = .ok (.if_icmp .ge 15, 3) := dAt tX11_here_0_ok 4 rfl
theorem dX11_here_11 : decode cX11_here 11 = .ok (.aload_n 0, 1) := dAt tX11_here_0_ok 5 rfl
theorem dX11_here_12 : decode cX11_here 12 = .ok (.getfield 27, 3) := dAt tX11_here_0_ok 6 rfl
theorem dX11_here_15 : decode cX11_here 15 = .ok (.aload_n 0, 1) := dAt tX11_here_0_ok 7 rfl
theorem dX11_here_16 : decode cX11_here 16 = .ok (.getfield 65, 3) := dAt tX11_here_0_ok 8 rfl
theorem dX11_here_19 : decode cX11_here 19 = .ok (.iaload, 1) := dAt tX11_here_0_ok 9 rfl
theorem dX11_here_20 : decode cX11_here 20 = .ok (.goto 4, 3) := dAt tX11_here_0_ok 10 rfl
theorem dX11_here_23 : decode cX11_here 23 = .ok (.iconst (-1), 1) := dAt tX11_here_0_ok 11 rfl
theorem dX11_here_24 : decode cX11_here 24 = .ok (.ireturn, 1) := dAt tX11_here_0_ok 12 rfl
def tX11_fails_0 : List (Nat × Instr × Nat) := [(0, .aload_n 0, 1), (1, .getfield 71, 3), (4, .ifCond .ge 8, 3), (7, .aload_n 0, 1), (8, .iload_n 1, 1), (9, .putfield 71, 3), (12, .iconst 0, 1), (13, .ireturn, 1)]
theorem tX11_fails_0_ok : dAll cX11_fails tX11_fails_0 = true := by decide +kernel
theorem dX11_fails_0 : decode cX11_fails 0 = .ok (.aload_n 0, 1) := dAt tX11_fails_0_ok 0 rfl
theorem dX11_fails_1 : decode cX11_fails 1 = .ok (.getfield 71, 3) := dAt tX11_fails_0_ok 1 rfl
theorem dX11_fails_4 : decode cX11_fails 4 = .ok (.ifCond .ge 8, 3) := dAt tX11_fails_0_ok 2 rfl
theorem dX11_fails_7 : decode cX11_fails 7 = .ok (.aload_n 0, 1) := dAt tX11_fails_0_ok 3 rfl
theorem dX11_fails_8 : decode cX11_fails 8 = .ok (.iload_n 1, 1) := dAt tX11_fails_0_ok 4 rfl
theorem dX11_fails_9 : decode cX11_fails 9 = .ok (.putfield 71, 3) := dAt tX11_fails_0_ok 5 rfl
theorem dX11_fails_12 : decode cX11_fails 12 = .ok (.iconst 0, 1) := dAt tX11_fails_0_ok 6 rfl
theorem dX11_fails_13 : decode cX11_fails 13 = .ok (.ireturn, 1) := dAt tX11_fails_0_ok 7 rfl
def tX11_isSign_0 : List (Nat × Instr × Nat) := [(0, .aload_n 0, 1), (1, .invokevirtual 74, 3), (4, .iload_n 1, 1), (5, .if_icmp .eq 12, 3), (8, .aload_n 0, 1), (9, .aload_n 0, 1), (10, .getfield 65, 3), (13, .invokevirtual 78, 3), (16, .ireturn, 1), (17, .aload_n 0, 1), (18, .dup, 1), (19, .getfield 65, 3), (22, .iconst 1, 1), (23, .iadd, 1), (24, .putfield 65, 3), (27, .iconst 1, 1), (28, .ireturn, 1)]
theorem tX11_isSign_0_ok : dAll cX11_isSign tX11_isSign_0 = true := by decide +kernel
theorem dX11_isSign_0 : decode cX11_isSign 0 = .ok (.aload_n 0, 1) := dAt tX11_isSign_0_ok 0 rfl
theorem dX11_isSign_1 : decode cX11_isSign 1 = .ok (.invokevirtual 74, 3) := dAt tX11_isSign_0_ok 1 rfl
theorem dX11_isSign_4 : decode cX11_isSign 4 = .ok (.iload_n 1, 1) := dAt tX11_isSign_0_ok 2 rfl
theorem dX11_isSign_5 : decode cX11_isSign 5 = .ok (.if_icmp .eq 12, 3) := dAt tX11_isSign_0_ok 3 rfl
theorem dX11_isSign_8 : decode cX11_isSign 8 = .ok (.aload_n 0, 1) := dAt tX11_isSign_0_ok 4 rfl
theorem dX11_isSign_9 : decode cX11_isSign 9 = .ok (.aload_n 0, 1) := dAt tX11_isSign_0_ok 5 rfl
theorem dX11_isSign_10 : decode cX11_isSign 10 = .ok (.getfield 65, 3) := dAt tX11_isSign_0_ok 6 rfl
theorem dX11_isSign_13 : decode cX11_isSign 13 = .ok (.invokevirtual 78, 3) := dAt tX11_isSign_0_ok 7 rfl
theorem dX11_isSign_16 : decode cX11_isSign 16 = .ok (.ireturn, 1) := dAt tX11_isSign_0_ok 8 rfl
theorem dX11_isSign_17 : decode cX11_isSign 17 = .ok (.aload_n 0, 1) := dAt tX11_isSign_0_ok 9 rfl
theorem dX11_isSign_18 : decode cX11_isSign 18 = .ok (.dup, 1) := dAt tX11_isSign_0_ok 10 rfl
theorem dX11_isSign_19 : decode cX11_isSign 19 = .ok (.getfield 65, 3) := dAt tX11_isSign_0_ok 11 rfl
theorem dX11_isSign_22 : decode cX11_isSign 22 = .ok (.iconst 1, 1) := dAt tX11_isSign_0_ok 12 rfl
theorem dX11_isSign_23 : decode cX11_isSign 23 = .ok (.iadd, 1) := dAt tX11_isSign_0_ok 13 rfl
theorem dX11_isSign_24 : decode cX11_isSign 24 = .ok (.putfield 65, 3) := dAt tX11_isSign_0_ok 14 rfl
theorem dX11_isSign_27 : decode cX11_isSign 27 = .ok (.iconst 1, 1) := dAt tX11_isSign_0_ok 15 rfl
theorem dX11_isSign_28 : decode cX11_isSign 28 = .ok (.ireturn, 1) := dAt tX11_isSign_0_ok 16 rfl
def tX11_isNumber_0 : List (Nat × Instr × Nat) := [(0, .aload_n 0, 1), (1, .getfield 65, 3), (4, .istore 4, 2), (6, .aload_n 0, 1), (7, .invokevirtual 74, 3), (10, .bipush 48, 2), (12, .bipush 57, 2), (14, .invokestatic 46, 3), (17, .ifCond .ne 12, 3), (20, .aload_n 0, 1), (21, .aload_n 0, 1), (22, .getfield 65, 3), (25, .invokevirtual 78, 3), (28, .ireturn, 1), (29, .aload_n 0, 1), (30, .iconst 0, 1), (31, .putfield 81, 3), (34, .iconst 0, 1), (35, .istore 5, 2), (37, .iload 5, 2), (39, .iload_n 1, 1), (40, .if_icmp .ge 52, 3), (43, .aload_n 0, 1), (44, .invokevirtual 74, 3), (47, .bipush 48, 2), (49, .bipush 57, 2), (51, .invokestatic 46, 3), (54, .ifCond .eq 38, 3), (57, .aload_n 0, 1), (58, .bipush 10, 2), (60, .aload_n 0, 1), (61, .getfield 81, 3), (64, .imul, 1), (65, .aload_n 0, 1), (66, .invokevirtual 74, 3), (69, .iadd, 1), (70, .bipush 48, 2), (72, .isub, 1), (73, .putfield 81, 3), (76, .aload_n 0, 1), (77, .dup, 1), (78, .getfield 65, 3), (81, .iconst 1, 1), (82, .iadd, 1), (83, .putfield 65, 3), (86, .iinc 5 1, 3), (89, .goto (-52), 3), (92, .aload_n 0, 1)]
theorem tX11_isNumber_0_ok : dAll cX11_isNumber tX11_isNumber_0 = true := by decide +kernel
theorem dX11_isNumber_0 : decode cX11_isNumber 0 = .ok (.aload_n 0, 1) := dAt tX11_isNumber_0_ok 0 rfl
theorem dX11_isNumber_1 : decode cX11_isNumber 1 = .ok (.getfield 65, 3) := dAt tX11_isNumber_0_ok 1 rfl
theorem dX11_isNumber_4 : decode cX11_isNumber 4 = .ok (.istore 4, 2) := dAt tX11_isNumber_0_ok 2 rfl
theorem dX11_isNumber_6 : decode cX11_isNumber 6 = .ok (.aload_n 0, 1) := dAt tX11_isNumber_0_ok 3 rfl
theorem dX11_isNumber_7 : decode cX11_isNumber 7 = .ok (.invokevirtual 74, 3) := dAt tX11_isNumber_0_ok 4 rfl
theorem dX11_isNumber_10 : decode cX11_isNumber 10 = .ok (.bipush 48, 2) := dAt tX11_isNumber_0_ok 5 rfl
theorem dX11_isNumber_12 : decode cX11_isNumber 12 = .ok (.bipush 57, 2) := dAt tX11_isNumber_0_ok 6 rfl
theorem dX11_isNumber_14 : decode cX11_isNumber 14 = .ok (.invokestatic 46, 3) := dAt tX11_isNumber_0_ok 7 rfl
theorem dX11_isNumber_17 : decode cX11_isNumber 17 = .ok (.ifCond .ne 12, 3) := dAt tX11_isNumber_0_ok 8 rfl
theorem dX11_isNumber_20 : decode cX11_isNumber 20 = .ok (.aload_n 0, 1) := dAt tX11_isNumber_0_ok 9 rfl
theorem dX11_isNumber_21 : decode cX11_isNumber 21 = .ok (.aload_n 0, 1) := dAt tX11_isNumber_0_ok 10 rfl
theorem dX11_isNumber_22 : decode cX11_isNumber 22 = .ok (.getfield 65, 3) := dAt tX11_isNumber_0_ok 11 rfl
theorem dX11_isNumber_25 : decode cX11_isNumber 25 = .ok (.invokevirtual 78, 3) := dAt tX11_isNumber_0_ok 12 rfl
theorem dX11_isNumber_28 : decode cX11_isNumber 28 = .ok (.ireturn, 1) := dAt tX11_isNumber_0_ok 13 rfl
theorem dX11_isNumber_29 : decode cX11_isNumber 29 = .ok (.aload_n 0, 1) := dAt tX11_isNumber_0_ok 14 rfl
theorem dX11_isNumber_30 : decode cX11_isNumber 30 = .ok (.iconst 0, 1) := dAt tX11_isNumber_0_ok 15 rfl
theorem dX11_isNumber_31 : decode cX11_isNumber 31 = .ok (.putfield 81, 3) := dAt tX11_isNumber_0_ok 16 rfl
theorem dX11_isNumber_34 : decode cX11_isNumber 34 = .ok (.iconst 0, 1) := dAt tX11_isNumber_0_ok 17 rfl
theorem dX11_isNumber_35 : decode cX11_isNumber 35 = .ok (.istore 5, 2) := dAt tX11_isNumber_0_ok 18 rfl
theorem dX11_isNumber_37 : decode cX11_isNumber 37 = .ok (.iload 5, 2) := dAt tX11_isNumber_0_ok 19 rfl
theorem dX11_isNumber_39 : decode cX11_isNumber 39 = .ok (.iload_n 1, 1) := dAt tX11_isNumber_0_ok 20 rfl
theorem dX11_isNumber_40 : decode cX11_isNumber 40 = .ok (.if_icmp .ge 52, 3) := dAt tX11_isNumber_0_ok 21 rfl
theorem dX11_isNumber_43 : decode cX11_isNumber 43 = .ok (.aload_n 0, 1) := dAt tX11_isNumber_0_ok 22 rfl
theorem dX11_isNumber_44 : decode cX11_isNumber 44 = .ok (.invokevirtual 74, 3) := dAt tX11_isNumber_0_ok 23 rfl
theorem dX11_isNumber_47 : decode cX11_isNumber 47 = .ok (.bipush 48, 2) := dAt tX11_isNumber_0_ok 24 rfl
theorem dX11_isNumber_49 : decode cX11_isNumber 49 = .ok (.bipush 57, 2) := dAt tX11_isNumber_0_ok 25 rfl
theorem dX11_isNumber_51 : decode cX11_isNumber 51 = .ok (.invokestatic 46, 3) := dAt tX11_isNumber_0_ok 26 rfl
theorem dX11_isNumber_54 : decode cX11_isNumber 54 = .ok (.ifCond .eq 38, 3) := dAt tX11_isNumber_0_ok 27 rfl
theorem dX11_isNumber_57 : decode cX11_isNumber 57 = .ok (.aload_n 0, 1) := dAt tX11_isNumber_0_ok 28 rfl
theorem dX11_isNumber_58 : decode cX11_isNumber 58 = .ok (.bipush 10, 2) := dAt tX11_isNumber_0_ok 29 rfl
theorem dX11_isNumber_60 : decode cX11_isNumber 60 = .ok (.aload_n 0, 1) := dAt tX11_isNumber_0_ok 30 rfl
theorem dX11_isNumber_61 : decode cX11_isNumber 61 = .ok (.getfield 81, 3) := dAt tX11_isNumber_0_ok 31 rfl
theorem dX11_isNumber_64 : decode cX11_isNumber 64 = .ok (.imul, 1) := dAt tX11_isNumber_0_ok 32 rfl
theorem dX11_isNumber_65 : decode cX11_isNumber 65 = .ok (.aload_n 0, 1) := dAt tX11_isNumber_0_ok 33 rfl
theorem dX11_isNumber_66 : decode cX11_isNumber 66 = .ok (.invokevirtual 74, 3) := dAt tX11_isNumber_0_ok 34 rfl
theorem dX11_isNumber_69 : decode cX11_isNumber 69 = .ok (.iadd, 1) := dAt tX11_isNumber_0_ok 35 rfl
theorem dX11_isNumber_70 : decode cX11_isNumber 70 = .ok (.bipush 48, 2) := dAt tX11_isNumber_0_ok 36 rfl
theorem dX11_isNumber_72 : decode cX11_isNumber 72 = .ok (.isub, 1) := dAt tX11_isNumber_0_ok 37 rfl
theorem dX11_isNumber_73 : decode cX11_isNumber 73 = .ok (.putfield 81, 3) := dAt tX11_isNumber_0_ok 38 rfl
theorem dX11_isNumber_76 : decode cX11_isNumber 76 = .ok (.aload_n 0, 1) := dAt tX11_isNumber_0_ok 39 rfl
theorem dX11_isNumber_77 : decode cX11_isNumber 77 = .ok (.dup, 1) := dAt tX11_isNumber_0_ok 40 rfl
theorem dX11_isNumber_78 : decode cX11_isNumber 78 = .ok (.getfield 65, 3) := dAt tX11_isNumber_0_ok 41 rfl
theorem dX11_isNumber_81 : decode cX11_isNumber 81 = .ok (.iconst 1, 1) := dAt tX11_isNumber_0_ok 42 rfl
theorem dX11_isNumber_82 : decode cX11_isNumber 82 = .ok (.iadd, 1) := dAt tX11_isNumber_0_ok 43 rfl
theorem dX11_isNumber_83 : decode cX11_isNumber 83 = .ok (.putfield 65, 3) := dAt tX11_isNumber_0_ok 44 rfl
theorem dX11_isNumber_86 : decode cX11_isNumber 86 = .ok (.iinc 5 1, 3) := dAt tX11_isNumber_0_ok 45 rfl
theorem dX11_isNumber_89 : decode cX11_isNumber 89 = .ok (.goto (-52), 3) := dAt tX11_isNumber_0_ok 46 rfl
theorem dX11_isNumber_92 : decode cX11_isNumber 92 = .ok (.aload_n 0, 1) := dAt tX11_isNumber_0_ok 47 rfl
def tX11_isNumber_93 : List (Nat × Instr × Nat) := [(93, .getfield 81, 3), (96, .iload_n 2, 1), (97, .iload_n 3, 1), (98, .invokestatic 46, 3), (101, .ifCond .ne 12, 3), (104, .aload_n 0, 1), (105, .iload 4, 2), (107, .invokevirtual 78, 3), (110, .ifCond .eq 7, 3), (113, .iconst 1, 1), (114, .goto 4, 3), (117, .iconst 0, 1), (118, .ireturn, 1)]
theorem tX11_isNumber_93_ok : dAll cX11_isNumber tX11_isNumber_93 = true := by decide +kernel
theorem dX11_isNumber_93 : decode cX11_isNumber 93 = .ok (.getfield 81, 3) := dAt tX11_isNumber_93_ok 0 rfl
theorem dX11_isNumber_96 : decode cX11_isNumber 96 = .ok (.iload_n 2, 1) := dAt tX11_isNumber_93_ok 1 rfl
theorem dX11_isNumber_97 : decode cX11_isNumber 97 = .ok (.iload_n 3, 1) := dAt tX11_isNumber_93_ok 2 rfl
theorem dX11_isNumber_98 : decode cX11_isNumber 98 = .ok (.invokestatic 46, 3) := dAt tX11_isNumber_93_ok 3 rfl
theorem dX11_isNumber_101 : decode cX11_isNumber 101 = .ok (.ifCond .ne 12, 3) := dAt tX11_isNumber_93_ok 4 rfl
theorem dX11_isNumber_104 : decode cX11_isNumber 104 = .ok (.aload_n 0, 1) := dAt tX11_isNumber_93_ok 5 rfl
theorem dX11_isNumber_105 : decode cX11_isNumber 105 = .ok (.iload 4, 2) := dAt tX11_isNumber_93_ok 6 rfl
theorem dX11_isNumber_107 : decode cX11_isNumber 107 = .ok (.invokevirtual 78, 3) := dAt tX11_isNumber_93_ok 7 rfl
theorem dX11_isNumber_110 : decode cX11_isNumber 110 = .ok (.ifCond .eq 7, 3) := dAt tX11_isNumber_93_ok 8 rfl
theorem dX11_isNumber_113 : decode cX11_isNumber 113 = .ok (.iconst 1, 1) := dAt tX11_isNumber_93_ok 9 rfl
theorem dX11_isNumber_114 : decode cX11_isNumber 114 = .ok (.goto 4, 3) := dAt tX11_isNumber_93_ok 10 rfl
theorem dX11_isNumber_117 : decode cX11_isNumber 117 = .ok (.iconst 0, 1) := dAt tX11_isNumber_93_ok 11 rfl
theorem dX11_isNumber_118 : decode cX11_isNumber 118 = .ok (.ireturn, 1) := dAt tX11_isNumber_93_ok 12 rfl
def tX11_isSigned_0 : List (Nat × Instr × Nat) := [(0, .aload_n 0, 1), (1, .dup, 1), (2, .getfield 65, 3), (5, .aload_n 0, 1), (6, .invokevirtual 74, 3), (9, .bipush 45, 2), (11, .if_icmp .ne 7, 3), (14, .iconst 1, 1), (15, .goto 4, 3), (18, .iconst 0, 1), (19, .iadd, 1), (20, .putfield 65, 3), (23, .aload_n 0, 1), (24, .iconst 5, 1), (25, .iconst 0, 1), (26, .ldc 84, 2), (28, .invokevirtual 85, 3), (31, .ireturn, 1)]
theorem tX11_isSigned_0_ok : dAll cX11_isSigned tX11_isSigned_0 = true := by decide +kernel
theorem dX11_isSigned_0 : decode cX11_isSigned 0 = .ok (.aload_n 0, 1) := dAt tX11_isSigned_0_ok 0 rfl
theorem dX11_isSigned_1 : decode cX11_isSigned 1 = .ok (.dup, 1) := dAt tX11_isSigned_0_ok 1 rfl
theorem dX11_isSigned_2 : decode cX11_isSigned 2 = .ok (.getfield 65, 3) := dAt tX11_isSigned_0_ok 2 rfl
theorem dX11_isSigned_5 : decode cX11_isSigned 5 = .ok (.aload_n 0, 1) := dAt tX11_isSigned_0_ok 3 rfl
theorem dX11_isSigned_6 : decode cX11_isSigned 6 = .ok (.invokevirtual 74, 3) := dAt tX11_isSigned_0_ok 4 rfl
theorem dX11_isSigned_9 : decode cX11_isSigned 9 = .ok (.bipush 45, 2) := dAt tX11_isSigned_0_ok 5 rfl
theorem dX11_isSigned_11 : decode cX11_isSigned 11 = .ok (.if_icmp .ne 7, 3) := dAt tX11_isSigned_0_ok 6 rfl
theorem dX11_isSigned_14 : decode cX11_isSigned 14 = .ok (.iconst 1, 1) := dAt tX11_isSigned_0_ok 7 rfl
theorem dX11_isSigned_15 : decode cX11_isSigned 15 = .ok (.goto 4, 3) := dAt tX11_isSigned_0_ok 8 rfl
theorem dX11_isSigned_18 : decode cX11_isSigned 18 = .ok (.iconst 0, 1) := dAt tX11_isSigned_0_ok 9 rfl
theorem dX11_isSigned_19 : decode cX11_isSigned 19 = .ok (.iadd, 1) := dAt tX11_isSigned_0_ok 10 rfl
theorem dX11_isSigned_20 : decode cX11_isSigned 20 = .ok (.putfield 65, 3) := dAt tX11_isSigned_0_ok 11 rfl
theorem dX11_isSigned_23 : decode cX11_isSigned 23 = .ok (.aload_n 0, 1) := dAt tX11_isSigned_0_ok 12 rfl
theorem dX11_isSigned_24 : decode cX11_isSigned 24 = .ok (.iconst 5, 1) := dAt tX11_isSigned_0_ok 13 rfl
theorem dX11_isSigned_25 : decode cX11_isSigned 25 = .ok (.iconst 0, 1) := dAt tX11_isSigned_0_ok 14 rfl
theorem dX11_isSigned_26 : decode cX11_isSigned 26 = .ok (.ldc 84, 2) := dAt tX11_isSigned_0_ok 15 rfl
theorem dX11_isSigned_28 : decode cX11_isSigned 28 = .ok (.invokevirtual 85, 3) := dAt tX11_isSigned_0_ok 16 rfl
theorem dX11_isSigned_31 : decode cX11_isSigned 31 = .ok (.ireturn, 1) := dAt tX11_isSigned_0_ok 17 rfl
def tX11_isName_0 : List (Nat × Instr × Nat) := [(0, .aload_n 0, 1), (1, .invokevirtual 74, 3), (4, .bipush 97, 2), (6, .bipush 122, 2), (8, .invokestatic 46, 3), (11, .ifCond .ne 12, 3), (14, .aload_n 0, 1), (15, .aload_n 0, 1), (16, .getfield 65, 3), (19, .invokevirtual 78, 3), (22, .ireturn, 1), (23, .iconst 0, 1), (24, .istore_n 1, 1), (25, .iload_n 1, 1), (26, .bipush 7, 2), (28, .if_icmp .ge 33, 3), (31, .aload_n 0, 1), (32, .invokevirtual 74, 3), (35, .bipush 97, 2), (37, .bipush 122, 2), (39, .invokestatic 46, 3), (42, .ifCond .eq 19, 3), (45, .aload_n 0, 1), (46, .dup, 1), (47, .getfield 65, 3), (50, .iconst 1, 1), (51, .iadd, 1), (52, .putfield 65, 3), (55, .iinc 1 1, 3), (58, .goto (-33), 3), (61, .iconst 1, 1), (62, .ireturn, 1)]
theorem tX11_isName_0_ok : dAll cX11_isName tX11_isName_0 = true := by decide +kernel
theorem dX11_isName_0 : decode cX11_isName 0 = .ok (.aload_n 0, 1) := dAt tX11_isName_0_ok 0 rfl
theorem dX11_isName_1 : decode cX11_isName 1 = .ok (.invokevirtual 74, 3) := dAt tX11_isName_0_ok 1 rfl
theorem dX11_isName_4 : decode cX11_isName 4 = .ok (.bipush 97, 2) := dAt tX11_isName_0_ok 2 rfl
theorem dX11_isName_6 : decode cX11_isName 6 = .ok (.bipush 122, 2) := dAt tX11_isName_0_ok 3 rfl
theorem dX11_isName_8 : decode cX11_isName 8 = .ok (.invokestatic 46, 3) := dAt tX11_isName_0_ok 4 rfl
theorem dX11_isName_11 : decode cX11_isName 11 = .ok (.ifCond .ne 12, 3) := dAt tX11_isName_0_ok 5 rfl
theorem dX11_isName_14 : decode cX11_isName 14 = .ok (.aload_n 0, 1) := dAt tX11_isName_0_ok 6 rfl
theorem dX11_isName_15 : decode cX11_isName 15 = .ok (.aload_n 0, 1) := dAt tX11_isName_0_ok 7 rfl
theorem dX11_isName_16 : decode cX11_isName 16 = .ok (.getfield 65, 3) := dAt tX11_isName_0_ok 8 rfl
theorem dX11_isName_19 : decode cX11_isName 19 = .ok (.invokevirtual 78, 3) := dAt tX11_isName_0_ok 9 rfl
theorem dX11_isName_22 : decode cX11_isName 22 = .ok (.ireturn, 1) := dAt tX11_isName_0_ok 10 rfl
theorem dX11_isName_23 : decode cX11_isName 23 = .ok (.iconst 0, 1) := dAt tX11_isName_0_ok 11 rfl
theorem dX11_isName_24 : decode cX11_isName 24 = .ok (.istore_n 1, 1) := dAt tX11_isName_0_ok 12 rfl
theorem dX11_isName_25 : decode cX11_isName 25 = .ok (.iload_n 1, 1) := dAt tX11_isName_0_ok 13 rfl
theorem dX11_isName_26 : decode cX11_isName 26 = .ok (.bipush 7, 2) := dAt tX11_isName_0_ok 14 rfl
theorem dX11_isName_28 : decode cX11_isName 28 = .ok (.if_icmp .ge 33, 3) := dAt tX11_isName_0_ok 15 rfl
theorem dX11_isName_31 : decode cX11_isName 31 = .ok (.aload_n 0, 1) := dAt tX11_isName_0_ok 16 rfl
theorem dX11_isName_32 : decode cX11_isName 32 = .ok (.invokevirtual 74, 3) := dAt tX11_isName_0_ok 17 rfl
theorem dX11_isName_35 : decode cX11_isName 35 = .ok (.bipush 97, 2) := dAt tX11_isName_0_ok 18 rfl
theorem dX11_isName_37 : decode cX11_isName 37 = .ok (.bipush 122, 2) := dAt tX11_isName_0_ok 19 rfl
theorem dX11_isName_39 : decode cX11_isName 39 = .ok (.invokestatic 46, 3) := dAt tX11_isName_0_ok 20 rfl
theorem dX11_isName_42 : decode cX11_isName 42 = .ok (.ifCond .eq 19, 3) := dAt tX11_isName_0_ok 21 rfl
theorem dX11_isName_45 : decode cX11_isName 45 = .ok (.aload_n 0, 1) := dAt tX11_isName_0_ok 22 rfl
theorem dX11_isName_46 : decode cX11_isName 46 = .ok (.dup, 1) := dAt tX11_isName_0_ok 23 rfl
theorem dX11_isName_47 : decode cX11_isName 47 = .ok (.getfield 65, 3) := dAt tX11_isName_0_ok 24 rfl
theorem dX11_isName_50 : decode cX11_isName 50 = .ok (.iconst 1, 1) := dAt tX11_isName_0_ok 25 rfl
theorem dX11_isName_51 : decode cX11_isName 51 = .ok (.iadd, 1) := dAt tX11_isName_0_ok 26 rfl
theorem dX11_isName_52 : decode cX11_isName 52 = .ok (.putfield 65, 3) := dAt tX11_isName_0_ok 27 rfl
theorem dX11_isName_55 : decode cX11_isName 55 = .ok (.iinc 1 1, 3) := dAt tX11_isName_0_ok 28 rfl
theorem dX11_isName_58 : decode cX11_isName 58 = .ok (.goto (-33), 3) := dAt tX11_isName_0_ok 29 rfl
theorem dX11_isName_61 : decode cX11_isName 61 = .ok (.iconst 1, 1) := dAt tX11_isName_0_ok 30 rfl
theorem dX11_isName_62 : decode cX11_isName 62 = .ok (.ireturn, 1) := dAt tX11_isName_0_ok 31 rfl
def tX11_isTakeRead_0 : List (Nat × Instr × Nat) := [(0, .aload_n 0, 1), (1, .invokevirtual 88, 3), (4, .ifCond .ne 5, 3), (7, .iconst 0, 1), (8, .ireturn, 1), (9, .aload_n 0, 1), (10, .invokevirtual 74, 3), (13, .bipush 123, 2), (15, .if_icmp .eq 5, 3), (18, .iconst 1, 1), (19, .ireturn, 1), (20, .iload_n 1, 1), (21, .iconst 2, 1), (22, .if_icmp .le 12, 3), (25, .aload_n 0, 1), (26, .aload_n 0, 1), (27, .getfield 65, 3), (30, .invokevirtual 78, 3), (33, .ireturn, 1), (34, .aload_n 0, 1), (35, .dup, 1), (36, .getfield 65, 3), (39, .iconst 1, 1), (40, .iadd, 1), (41, .putfield 65, 3), (44, .aload_n 0, 1), (45, .iload_n 1, 1), (46, .iconst 1, 1), (47, .iadd, 1), (48, .iconst 0, 1), (49, .invokevirtual 92, 3), (52, .ifCond .eq 16, 3), (55, .aload_n 0, 1), (56, .bipush 125, 2), (58, .invokevirtual 96, 3), (61, .ifCond .eq 7, 3), (64, .iconst 1, 1), (65, .goto 4, 3), (68, .iconst 0, 1), (69, .ireturn, 1)]
theorem tX11_isTakeRead_0_ok : dAll cX11_isTakeRead tX11_isTakeRead_0 = true := by decide +kernel
theorem dX11_isTakeRead_0 : decode cX11_isTakeRead 0 = .ok (.aload_n 0, 1) := dAt tX11_isTakeRead_0_ok 0 rfl
theorem dX11_isTakeRead_1 : decode cX11_isTakeRead 1 = .ok (.invokevirtual 88, 3) := dAt tX11_isTakeRead_0_ok 1 rfl
theorem dX11_isTakeRead_4 : decode cX11_isTakeRead 4 = .ok (.ifCond .ne 5, 3) := dAt tX11_isTakeRead_0_ok 2 rfl
theorem dX11_isTakeRead_7 : decode cX11_isTakeRead 7 = .ok (.iconst 0, 1) := dAt tX11_isTakeRead_0_ok 3 rfl
theorem dX11_isTakeRead_8 : decode cX11_isTakeRead 8 = .ok (.ireturn, 1) := dAt tX11_isTakeRead_0_ok 4 rfl
theorem dX11_isTakeRead_9 : decode cX11_isTakeRead 9 = .ok (.aload_n 0, 1) := dAt tX11_isTakeRead_0_ok 5 rfl
theorem dX11_isTakeRead_10 : decode cX11_isTakeRead 10 = .ok (.invokevirtual 74, 3) := dAt tX11_isTakeRead_0_ok 6 rfl
theorem dX11_isTakeRead_13 : decode cX11_isTakeRead 13 = .ok (.bipush 123, 2) := dAt tX11_isTakeRead_0_ok 7 rfl
theorem dX11_isTakeRead_15 : decode cX11_isTakeRead 15 = .ok (.if_icmp .eq 5, 3) := dAt tX11_isTakeRead_0_ok 8 rfl
theorem dX11_isTakeRead_18 : decode cX11_isTakeRead 18 = .ok (.iconst 1, 1) := dAt tX11_isTakeRead_0_ok 9 rfl
theorem dX11_isTakeRead_19 : decode cX11_isTakeRead 19 = .ok (.ireturn, 1) := dAt tX11_isTakeRead_0_ok 10 rfl
theorem dX11_isTakeRead_20 : decode cX11_isTakeRead 20 = .ok (.iload_n 1, 1) := dAt tX11_isTakeRead_0_ok 11 rfl
theorem dX11_isTakeRead_21 : decode cX11_isTakeRead 21 = .ok (.iconst 2, 1) := dAt tX11_isTakeRead_0_ok 12 rfl
theorem dX11_isTakeRead_22 : decode cX11_isTakeRead 22 = .ok (.if_icmp .le 12, 3) := dAt tX11_isTakeRead_0_ok 13 rfl
theorem dX11_isTakeRead_25 : decode cX11_isTakeRead 25 = .ok (.aload_n 0, 1) := dAt tX11_isTakeRead_0_ok 14 rfl
theorem dX11_isTakeRead_26 : decode cX11_isTakeRead 26 = .ok (.aload_n 0, 1) := dAt tX11_isTakeRead_0_ok 15 rfl
theorem dX11_isTakeRead_27 : decode cX11_isTakeRead 27 = .ok (.getfield 65, 3) := dAt tX11_isTakeRead_0_ok 16 rfl
theorem dX11_isTakeRead_30 : decode cX11_isTakeRead 30 = .ok (.invokevirtual 78, 3) := dAt tX11_isTakeRead_0_ok 17 rfl
theorem dX11_isTakeRead_33 : decode cX11_isTakeRead 33 = .ok (.ireturn, 1) := dAt tX11_isTakeRead_0_ok 18 rfl
theorem dX11_isTakeRead_34 : decode cX11_isTakeRead 34 = .ok (.aload_n 0, 1) := dAt tX11_isTakeRead_0_ok 19 rfl
theorem dX11_isTakeRead_35 : decode cX11_isTakeRead 35 = .ok (.dup, 1) := dAt tX11_isTakeRead_0_ok 20 rfl
theorem dX11_isTakeRead_36 : decode cX11_isTakeRead 36 = .ok (.getfield 65, 3) := dAt tX11_isTakeRead_0_ok 21 rfl
theorem dX11_isTakeRead_39 : decode cX11_isTakeRead 39 = .ok (.iconst 1, 1) := dAt tX11_isTakeRead_0_ok 22 rfl
theorem dX11_isTakeRead_40 : decode cX11_isTakeRead 40 = .ok (.iadd, 1) := dAt tX11_isTakeRead_0_ok 23 rfl
theorem dX11_isTakeRead_41 : decode cX11_isTakeRead 41 = .ok (.putfield 65, 3) := dAt tX11_isTakeRead_0_ok 24 rfl
theorem dX11_isTakeRead_44 : decode cX11_isTakeRead 44 = .ok (.aload_n 0, 1) := dAt tX11_isTakeRead_0_ok 25 rfl
theorem dX11_isTakeRead_45 : decode cX11_isTakeRead 45 = .ok (.iload_n 1, 1) := dAt tX11_isTakeRead_0_ok 26 rfl
theorem dX11_isTakeRead_46 : decode cX11_isTakeRead 46 = .ok (.iconst 1, 1) := dAt tX11_isTakeRead_0_ok 27 rfl
theorem dX11_isTakeRead_47 : decode cX11_isTakeRead 47 = .ok (.iadd, 1) := dAt tX11_isTakeRead_0_ok 28 rfl
theorem dX11_isTakeRead_48 : decode cX11_isTakeRead 48 = .ok (.iconst 0, 1) := dAt tX11_isTakeRead_0_ok 29 rfl
theorem dX11_isTakeRead_49 : decode cX11_isTakeRead 49 = .ok (.invokevirtual 92, 3) := dAt tX11_isTakeRead_0_ok 30 rfl
theorem dX11_isTakeRead_52 : decode cX11_isTakeRead 52 = .ok (.ifCond .eq 16, 3) := dAt tX11_isTakeRead_0_ok 31 rfl
theorem dX11_isTakeRead_55 : decode cX11_isTakeRead 55 = .ok (.aload_n 0, 1) := dAt tX11_isTakeRead_0_ok 32 rfl
theorem dX11_isTakeRead_56 : decode cX11_isTakeRead 56 = .ok (.bipush 125, 2) := dAt tX11_isTakeRead_0_ok 33 rfl
theorem dX11_isTakeRead_58 : decode cX11_isTakeRead 58 = .ok (.invokevirtual 96, 3) := dAt tX11_isTakeRead_0_ok 34 rfl
theorem dX11_isTakeRead_61 : decode cX11_isTakeRead 61 = .ok (.ifCond .eq 7, 3) := dAt tX11_isTakeRead_0_ok 35 rfl
theorem dX11_isTakeRead_64 : decode cX11_isTakeRead 64 = .ok (.iconst 1, 1) := dAt tX11_isTakeRead_0_ok 36 rfl
theorem dX11_isTakeRead_65 : decode cX11_isTakeRead 65 = .ok (.goto 4, 3) := dAt tX11_isTakeRead_0_ok 37 rfl
theorem dX11_isTakeRead_68 : decode cX11_isTakeRead 68 = .ok (.iconst 0, 1) := dAt tX11_isTakeRead_0_ok 38 rfl
theorem dX11_isTakeRead_69 : decode cX11_isTakeRead 69 = .ok (.ireturn, 1) := dAt tX11_isTakeRead_0_ok 39 rfl
def tX11_isStepRead_0 : List (Nat × Instr × Nat) := [(0, .aload_n 0, 1), (1, .invokevirtual 74, 3), (4, .istore 4, 2), (6, .iload 4, 2), (8, .bipush 43, 2), (10, .if_icmp .eq 81, 3), (13, .iload 4, 2), (15, .bipush 33, 2), (17, .if_icmp .eq 74, 3), (20, .iload 4, 2), (22, .bipush 97, 2), (24, .if_icmp .eq 67, 3), (27, .iload 4, 2), (29, .bipush 120, 2), (31, .if_icmp .eq 60, 3), (34, .iload 4, 2), (36, .bipush 109, 2), (38, .if_icmp .eq 53, 3), (41, .iload 4, 2), (43, .bipush 107, 2), (45, .if_icmp .eq 46, 3), (48, .iload 4, 2), (50, .bipush 46, 2), (52, .if_icmp .eq 39, 3), (55, .iload 4, 2), (57, .bipush 63, 2), (59, .if_icmp .ne 7, 3), (62, .iload_n 3, 1), (63, .ifCond .eq 28, 3), (66, .iload 4, 2), (68, .bipush 40, 2), (70, .if_icmp .eq 17, 3), (73, .iload 4, 2), (75, .bipush 41, 2), (77, .if_icmp .ne 18, 3), (80, .aload_n 0, 1), (81, .getfield 99, 3), (84, .ifCond .le 11, 3), (87, .iload_n 2, 1), (88, .ifCond .eq 7, 3), (91, .iconst 1, 1), (92, .goto 4, 3), (95, .iconst 0, 1), (96, .istore 5, 2), (98, .iload 5, 2), (100, .ifCond .ne 12, 3), (103, .aload_n 0, 1), (104, .aload_n 0, 1)]
theorem tX11_isStepRead_0_ok : dAll cX11_isStepRead tX11_isStepRead_0 = true := by decide +kernel
theorem dX11_isStepRead_0 : decode cX11_isStepRead 0 = .ok (.aload_n 0, 1) := dAt tX11_isStepRead_0_ok 0 rfl
theorem dX11_isStepRead_1 : decode cX11_isStepRead 1 = .ok (.invokevirtual 74, 3) := dAt tX11_isStepRead_0_ok 1 rfl
theorem dX11_isStepRead_4 : decode cX11_isStepRead 4 = .ok (.istore 4, 2) := dAt tX11_isStepRead_0_ok 2 rfl
theorem dX11_isStepRead_6 : decode cX11_isStepRead 6 = .ok (.iload 4, 2) := dAt tX11_isStepRead_0_ok 3 rfl
theorem dX11_isStepRead_8 : decode cX11_isStepRead 8 = .ok (.bipush 43, 2) := dAt tX11_isStepRead_0_ok 4 rfl
theorem dX11_isStepRead_10 : decode cX11_isStepRead 10 = .ok (.if_icmp .eq 81, 3) := dAt tX11_isStepRead_0_ok 5 rfl
theorem dX11_isStepRead_13 : decode cX11_isStepRead 13 = .ok (.iload 4, 2) := dAt tX11_isStepRead_0_ok 6 rfl
theorem dX11_isStepRead_15 : decode cX11_isStepRead 15 = .ok (.bipush 33, 2) := dAt tX11_isStepRead_0_ok 7 rfl
theorem dX11_isStepRead_17 : decode cX11_isStepRead 17 = .ok (.if_icmp .eq 74, 3) := dAt tX11_isStepRead_0_ok 8 rfl
theorem dX11_isStepRead_20 : decode cX11_isStepRead 20 = .ok (.iload 4, 2) := dAt tX11_isStepRead_0_ok 9 rfl
theorem dX11_isStepRead_22 : decode cX11_isStepRead 22 = .ok (.bipush 97, 2) := dAt tX11_isStepRead_0_ok 10 rfl
theorem dX11_isStepRead_24 : decode cX11_isStepRead 24 = .ok (.if_icmp .eq 67, 3) := dAt tX11_isStepRead_0_ok 11 rfl
theorem dX11_isStepRead_27 : decode cX11_isStepRead 27 = .ok (.iload 4, 2) := dAt tX11_isStepRead_0_ok 12 rfl
theorem dX11_isStepRead_29 : decode cX11_isStepRead 29 = .ok (.bipush 120, 2) := dAt tX11_isStepRead_0_ok 13 rfl
theorem dX11_isStepRead_31 : decode cX11_isStepRead 31 = .ok (.if_icmp .eq 60, 3) := dAt tX11_isStepRead_0_ok 14 rfl
theorem dX11_isStepRead_34 : decode cX11_isStepRead 34 = .ok (.iload 4, 2) := dAt tX11_isStepRead_0_ok 15 rfl
theorem dX11_isStepRead_36 : decode cX11_isStepRead 36 = .ok (.bipush 109, 2) := dAt tX11_isStepRead_0_ok 16 rfl
theorem dX11_isStepRead_38 : decode cX11_isStepRead 38 = .ok (.if_icmp .eq 53, 3) := dAt tX11_isStepRead_0_ok 17 rfl
theorem dX11_isStepRead_41 : decode cX11_isStepRead 41 = .ok (.iload 4, 2) := dAt tX11_isStepRead_0_ok 18 rfl
theorem dX11_isStepRead_43 : decode cX11_isStepRead 43 = .ok (.bipush 107, 2) := dAt tX11_isStepRead_0_ok 19 rfl
theorem dX11_isStepRead_45 : decode cX11_isStepRead 45 = .ok (.if_icmp .eq 46, 3) := dAt tX11_isStepRead_0_ok 20 rfl
theorem dX11_isStepRead_48 : decode cX11_isStepRead 48 = .ok (.iload 4, 2) := dAt tX11_isStepRead_0_ok 21 rfl
theorem dX11_isStepRead_50 : decode cX11_isStepRead 50 = .ok (.bipush 46, 2) := dAt tX11_isStepRead_0_ok 22 rfl
theorem dX11_isStepRead_52 : decode cX11_isStepRead 52 = .ok (.if_icmp .eq 39, 3) := dAt tX11_isStepRead_0_ok 23 rfl
theorem dX11_isStepRead_55 : decode cX11_isStepRead 55 = .ok (.iload 4, 2) := dAt tX11_isStepRead_0_ok 24 rfl
theorem dX11_isStepRead_57 : decode cX11_isStepRead 57 = .ok (.bipush 63, 2) := dAt tX11_isStepRead_0_ok 25 rfl
theorem dX11_isStepRead_59 : decode cX11_isStepRead 59 = .ok (.if_icmp .ne 7, 3) := dAt tX11_isStepRead_0_ok 26 rfl
theorem dX11_isStepRead_62 : decode cX11_isStepRead 62 = .ok (.iload_n 3, 1) := dAt tX11_isStepRead_0_ok 27 rfl
theorem dX11_isStepRead_63 : decode cX11_isStepRead 63 = .ok (.ifCond .eq 28, 3) := dAt tX11_isStepRead_0_ok 28 rfl
theorem dX11_isStepRead_66 : decode cX11_isStepRead 66 = .ok (.iload 4, 2) := dAt tX11_isStepRead_0_ok 29 rfl
theorem dX11_isStepRead_68 : decode cX11_isStepRead 68 = .ok (.bipush 40, 2) := dAt tX11_isStepRead_0_ok 30 rfl
theorem dX11_isStepRead_70 : decode cX11_isStepRead 70 = .ok (.if_icmp .eq 17, 3) := dAt tX11_isStepRead_0_ok 31 rfl
theorem dX11_isStepRead_73 : decode cX11_isStepRead 73 = .ok (.iload 4, 2) := dAt tX11_isStepRead_0_ok 32 rfl
theorem dX11_isStepRead_75 : decode cX11_isStepRead 75 = .ok (.bipush 41, 2) := dAt tX11_isStepRead_0_ok 33 rfl
theorem dX11_isStepRead_77 : decode cX11_isStepRead 77 = .ok (.if_icmp .ne 18, 3) := dAt tX11_isStepRead_0_ok 34 rfl
theorem dX11_isStepRead_80 : decode cX11_isStepRead 80 = .ok (.aload_n 0, 1) := dAt tX11_isStepRead_0_ok 35 rfl
theorem dX11_isStepRead_81 : decode cX11_isStepRead 81 = .ok (.getfield 99, 3) := dAt tX11_isStepRead_0_ok 36 rfl
theorem dX11_isStepRead_84 : decode cX11_isStepRead 84 = .ok (.ifCond .le 11, 3) := dAt tX11_isStepRead_0_ok 37 rfl
theorem dX11_isStepRead_87 : decode cX11_isStepRead 87 = .ok (.iload_n 2, 1) := dAt tX11_isStepRead_0_ok 38 rfl
theorem dX11_isStepRead_88 : decode cX11_isStepRead 88 = .ok (.ifCond .eq 7, 3) := dAt tX11_isStepRead_0_ok 39 rfl
theorem dX11_isStepRead_91 : decode cX11_isStepRead 91 = .ok (.iconst 1, 1) := dAt tX11_isStepRead_0_ok 40 rfl
theorem dX11_isStepRead_92 : decode cX11_isStepRead 92 = .ok (.goto 4, 3) := dAt tX11_isStepRead_0_ok 41 rfl
theorem dX11_isStepRead_95 : decode cX11_isStepRead 95 = .ok (.iconst 0, 1) := dAt tX11_isStepRead_0_ok 42 rfl
theorem dX11_isStepRead_96 : decode cX11_isStepRead 96 = .ok (.istore 5, 2) := dAt tX11_isStepRead_0_ok 43 rfl
theorem dX11_isStepRead_98 : decode cX11_isStepRead 98 = .ok (.iload 5, 2) := dAt tX11_isStepRead_0_ok 44 rfl
theorem dX11_isStepRead_100 : decode cX11_isStepRead 100 = .ok (.ifCond .ne 12, 3) := dAt tX11_isStepRead_0_ok 45 rfl
theorem dX11_isStepRead_103 : decode cX11_isStepRead 103 = .ok (.aload_n 0, 1) := dAt tX11_isStepRead_0_ok 46 rfl
theorem dX11_isStepRead_104 : decode cX11_isStepRead 104 = .ok (.aload_n 0, 1) := dAt tX11_isStepRead_0_ok 47 rfl
def tX11_isStepRead_105 : List (Nat × Instr × Nat) := [(105, .getfield 65, 3), (108, .invokevirtual 78, 3), (111, .ireturn, 1), (112, .aload_n 0, 1), (113, .dup, 1), (114, .getfield 65, 3), (117, .iconst 1, 1), (118, .iadd, 1), (119, .putfield 65, 3), (122, .iload 4, 2), (124, .lookupswitch 215 #[(33, 101), (43, 68), (63, 163), (97, 110), (107, 154), (109, 121), (120, 116)], 68), (192, .aload_n 0, 1), (193, .iconst 1, 1), (194, .iconst 0, 1), (195, .bipush 7, 2), (197, .invokevirtual 85, 3), (200, .ifCond .eq 23, 3), (203, .aload_n 0, 1), (204, .bipush 61, 2), (206, .invokevirtual 96, 3), (209, .ifCond .eq 14, 3), (212, .aload_n 0, 1), (213, .invokevirtual 102, 3), (216, .ifCond .eq 7, 3), (219, .iconst 1, 1), (220, .goto 4, 3), (223, .iconst 0, 1), (224, .ireturn, 1), (225, .aload_n 0, 1), (226, .iconst 2, 1), (227, .iconst 1, 1), (228, .bipush 99, 2), (230, .invokevirtual 85, 3), (233, .ireturn, 1), (234, .aload_n 0, 1), (235, .iload_n 1, 1), (236, .invokevirtual 105, 3), (239, .ireturn, 1), (240, .aload_n 0, 1), (241, .invokevirtual 88, 3), (244, .ireturn, 1), (245, .aload_n 0, 1), (246, .invokevirtual 88, 3), (249, .ifCond .eq 27, 3), (252, .aload_n 0, 1), (253, .bipush 62, 2), (255, .invokevirtual 96, 3), (258, .ifCond .eq 18, 3)]
theorem tX11_isStepRead_105_ok : dAll cX11_isStepRead tX11_isStepRead_105 = true := by decide +kernel
theorem dX11_isStepRead_105 : decode cX11_isStepRead 105 = .ok (.getfield 65, 3) := dAt tX11_isStepRead_105_ok 0 rfl
theorem dX11_isStepRead_108 : decode cX11_isStepRead 108 = .ok (.invokevirtual 78, 3) := dAt tX11_isStepRead_105_ok 1 rfl
theorem dX11_isStepRead_111 : decode cX11_isStepRead 111 = .ok (.ireturn, 1) := dAt tX11_isStepRead_105_ok 2 rfl
theorem dX11_isStepRead_112 : decode cX11_isStepRead 112 = .ok (.aload_n 0, 1) := dAt tX11_isStepRead_105_ok 3 rfl
theorem dX11_isStepRead_113 : decode cX11_isStepRead 113 = .ok (.dup, 1) := dAt tX11_isStepRead_105_ok 4 rfl
theorem dX11_isStepRead_114 : decode cX11_isStepRead 114 = .ok (.getfield 65, 3) := dAt tX11_isStepRead_105_ok 5 rfl
theorem dX11_isStepRead_117 : decode cX11_isStepRead 117 = .ok (.iconst 1, 1) := dAt tX11_isStepRead_105_ok 6 rfl
theorem dX11_isStepRead_118 : decode cX11_isStepRead 118 = .ok (.iadd, 1) := dAt tX11_isStepRead_105_ok 7 rfl
theorem dX11_isStepRead_119 : decode cX11_isStepRead 119 = .ok (.putfield 65, 3) := dAt tX11_isStepRead_105_ok 8 rfl
theorem dX11_isStepRead_122 : decode cX11_isStepRead 122 = .ok (.iload 4, 2) := dAt tX11_isStepRead_105_ok 9 rfl
theorem dX11_isStepRead_124 : decode cX11_isStepRead 124 = .ok (.lookupswitch 215 #[(33, 101), (43, 68), (63, 163), (97, 110), (107, 154), (109, 121), (120, 116)], 68) := dAt tX11_isStepRead_105_ok 10 rfl
theorem dX11_isStepRead_192 : decode cX11_isStepRead 192 = .ok (.aload_n 0, 1) := dAt tX11_isStepRead_105_ok 11 rfl
theorem dX11_isStepRead_193 : decode cX11_isStepRead 193 = .ok (.iconst 1, 1) := dAt tX11_isStepRead_105_ok 12 rfl
theorem dX11_isStepRead_194 : decode cX11_isStepRead 194 = .ok (.iconst 0, 1) := dAt tX11_isStepRead_105_ok 13 rfl
theorem dX11_isStepRead_195 : decode cX11_isStepRead 195 = .ok (.bipush 7, 2) := dAt tX11_isStepRead_105_ok 14 rfl
theorem dX11_isStepRead_197 : decode cX11_isStepRead 197 = .ok (.invokevirtual 85, 3) := dAt tX11_isStepRead_105_ok 15 rfl
theorem dX11_isStepRead_200 : decode cX11_isStepRead 200 = .ok (.ifCond .eq 23, 3) := dAt tX11_isStepRead_105_ok 16 rfl
theorem dX11_isStepRead_203 : decode cX11_isStepRead 203 = .ok (.aload_n 0, 1) := dAt tX11_isStepRead_105_ok 17 rfl
theorem dX11_isStepRead_204 : decode cX11_isStepRead 204 = .ok (.bipush 61, 2) := dAt tX11_isStepRead_105_ok 18 rfl
theorem dX11_isStepRead_206 : decode cX11_isStepRead 206 = .ok (.invokevirtual 96, 3) := dAt tX11_isStepRead_105_ok 19 rfl
theorem dX11_isStepRead_209 : decode cX11_isStepRead 209 = .ok (.ifCond .eq 14, 3) := dAt tX11_isStepRead_105_ok 20 rfl
theorem dX11_isStepRead_212 : decode cX11_isStepRead 212 = .ok (.aload_n 0, 1) := dAt tX11_isStepRead_105_ok 21 rfl
theorem dX11_isStepRead_213 : decode cX11_isStepRead 213 = .ok (.invokevirtual 102, 3) := dAt tX11_isStepRead_105_ok 22 rfl
theorem dX11_isStepRead_216 : decode cX11_isStepRead 216 = .ok (.ifCond .eq 7, 3) := dAt tX11_isStepRead_105_ok 23 rfl
theorem dX11_isStepRead_219 : decode cX11_isStepRead 219 = .ok (.iconst 1, 1) := dAt tX11_isStepRead_105_ok 24 rfl
theorem dX11_isStepRead_220 : decode cX11_isStepRead 220 = .ok (.goto 4, 3) := dAt tX11_isStepRead_105_ok 25 rfl
theorem dX11_isStepRead_223 : decode cX11_isStepRead 223 = .ok (.iconst 0, 1) := dAt tX11_isStepRead_105_ok 26 rfl
theorem dX11_isStepRead_224 : decode cX11_isStepRead 224 = .ok (.ireturn, 1) := dAt tX11_isStepRead_105_ok 27 rfl
theorem dX11_isStepRead_225 : decode cX11_isStepRead 225 = .ok (.aload_n 0, 1) := dAt tX11_isStepRead_105_ok 28 rfl
theorem dX11_isStepRead_226 : decode cX11_isStepRead 226 = .ok (.iconst 2, 1) := dAt tX11_isStepRead_105_ok 29 rfl
theorem dX11_isStepRead_227 : decode cX11_isStepRead 227 = .ok (.iconst 1, 1) := dAt tX11_isStepRead_105_ok 30 rfl
theorem dX11_isStepRead_228 : decode cX11_isStepRead 228 = .ok (.bipush 99, 2) := dAt tX11_isStepRead_105_ok 31 rfl
theorem dX11_isStepRead_230 : decode cX11_isStepRead 230 = .ok (.invokevirtual 85, 3) := dAt tX11_isStepRead_105_ok 32 rfl
theorem dX11_isStepRead_233 : decode cX11_isStepRead 233 = .ok (.ireturn, 1) := dAt tX11_isStepRead_105_ok 33 rfl
theorem dX11_isStepRead_234 : decode cX11_isStepRead 234 = .ok (.aload_n 0, 1) := dAt tX11_isStepRead_105_ok 34 rfl
theorem dX11_isStepRead_235 : decode cX11_isStepRead 235 = .ok (.iload_n 1, 1) := dAt tX11_isStepRead_105_ok 35 rfl
theorem dX11_isStepRead_236 : decode cX11_isStepRead 236 = .ok (.invokevirtual 105, 3) := dAt tX11_isStepRead_105_ok 36 rfl
theorem dX11_isStepRead_239 : decode cX11_isStepRead 239 = .ok (.ireturn, 1) := dAt tX11_isStepRead_105_ok 37 rfl
theorem dX11_isStepRead_240 : decode cX11_isStepRead 240 = .ok (.aload_n 0, 1) := dAt tX11_isStepRead_105_ok 38 rfl
theorem dX11_isStepRead_241 : decode cX11_isStepRead 241 = .ok (.invokevirtual 88, 3) := dAt tX11_isStepRead_105_ok 39 rfl
theorem dX11_isStepRead_244 : decode cX11_isStepRead 244 = .ok (.ireturn, 1) := dAt tX11_isStepRead_105_ok 40 rfl
theorem dX11_isStepRead_245 : decode cX11_isStepRead 245 = .ok (.aload_n 0, 1) := dAt tX11_isStepRead_105_ok 41 rfl
theorem dX11_isStepRead_246 : decode cX11_isStepRead 246 = .ok (.invokevirtual 88, 3) := dAt tX11_isStepRead_105_ok 42 rfl
theorem dX11_isStepRead_249 : decode cX11_isStepRead 249 = .ok (.ifCond .eq 27, 3) := dAt tX11_isStepRead_105_ok 43 rfl
theorem dX11_isStepRead_252 : decode cX11_isStepRead 252 = .ok (.aload_n 0, 1) := dAt tX11_isStepRead_105_ok 44 rfl
theorem dX11_isStepRead_253 : decode cX11_isStepRead 253 = .ok (.bipush 62, 2) := dAt tX11_isStepRead_105_ok 45 rfl
theorem dX11_isStepRead_255 : decode cX11_isStepRead 255 = .ok (.invokevirtual 96, 3) := dAt tX11_isStepRead_105_ok 46 rfl
theorem dX11_isStepRead_258 : decode cX11_isStepRead 258 = .ok (.ifCond .eq 18, 3) := dAt tX11_isStepRead_105_ok 47 rfl
def tX11_isStepRead_261 : List (Nat × Instr × Nat) := [(261, .aload_n 0, 1), (262, .iconst 2, 1), (263, .iconst 0, 1), (264, .bipush 99, 2), (266, .invokevirtual 85, 3), (269, .ifCond .eq 7, 3), (272, .iconst 1, 1), (273, .goto 4, 3), (276, .iconst 0, 1), (277, .ireturn, 1), (278, .aload_n 0, 1), (279, .iconst 1, 1), (280, .iconst 0, 1), (281, .bipush 9, 2), (283, .invokevirtual 85, 3), (286, .ireturn, 1), (287, .aload_n 0, 1), (288, .iconst 1, 1), (289, .iconst 0, 1), (290, .bipush 7, 2), (292, .invokevirtual 85, 3), (295, .ifCond .eq 42, 3), (298, .aload_n 0, 1), (299, .bipush 60, 2), (301, .invokevirtual 96, 3), (304, .ifCond .eq 33, 3), (307, .aload_n 0, 1), (308, .invokevirtual 102, 3), (311, .ifCond .eq 26, 3), (314, .aload_n 0, 1), (315, .bipush 58, 2), (317, .invokevirtual 96, 3), (320, .ifCond .eq 17, 3), (323, .aload_n 0, 1), (324, .iload_n 1, 1), (325, .iconst 0, 1), (326, .iconst 1, 1), (327, .invokevirtual 108, 3), (330, .ifCond .eq 7, 3), (333, .iconst 1, 1), (334, .goto 4, 3), (337, .iconst 0, 1), (338, .ireturn, 1), (339, .aload_n 0, 1), (340, .dup, 1), (341, .getfield 99, 3), (344, .iload 4, 2), (346, .bipush 40, 2)]
theorem tX11_isStepRead_261_ok : dAll cX11_isStepRead tX11_isStepRead_261 = true := by decide +kernel
theorem dX11_isStepRead_261 : decode cX11_isStepRead 261 = .ok (.aload_n 0, 1) := dAt tX11_isStepRead_261_ok 0 rfl
theorem dX11_isStepRead_262 : decode cX11_isStepRead 262 = .ok (.iconst 2, 1) := dAt tX11_isStepRead_261_ok 1 rfl
theorem dX11_isStepRead_263 : decode cX11_isStepRead 263 = .ok (.iconst 0, 1) := dAt tX11_isStepRead_261_ok 2 rfl
theorem dX11_isStepRead_264 : decode cX11_isStepRead 264 = .ok (.bipush 99, 2) := dAt tX11_isStepRead_261_ok 3 rfl
theorem dX11_isStepRead_266 : decode cX11_isStepRead 266 = .ok (.invokevirtual 85, 3) := dAt tX11_isStepRead_261_ok 4 rfl
theorem dX11_isStepRead_269 : decode cX11_isStepRead 269 = .ok (.ifCond .eq 7, 3) := dAt tX11_isStepRead_261_ok 5 rfl
theorem dX11_isStepRead_272 : decode cX11_isStepRead 272 = .ok (.iconst 1, 1) := dAt tX11_isStepRead_261_ok 6 rfl
theorem dX11_isStepRead_273 : decode cX11_isStepRead 273 = .ok (.goto 4, 3) := dAt tX11_isStepRead_261_ok 7 rfl
theorem dX11_isStepRead_276 : decode cX11_isStepRead 276 = .ok (.iconst 0, 1) := dAt tX11_isStepRead_261_ok 8 rfl
theorem dX11_isStepRead_277 : decode cX11_isStepRead 277 = .ok (.ireturn, 1) := dAt tX11_isStepRead_261_ok 9 rfl
theorem dX11_isStepRead_278 : decode cX11_isStepRead 278 = .ok (.aload_n 0, 1) := dAt tX11_isStepRead_261_ok 10 rfl
theorem dX11_isStepRead_279 : decode cX11_isStepRead 279 = .ok (.iconst 1, 1) := dAt tX11_isStepRead_261_ok 11 rfl
theorem dX11_isStepRead_280 : decode cX11_isStepRead 280 = .ok (.iconst 0, 1) := dAt tX11_isStepRead_261_ok 12 rfl
theorem dX11_isStepRead_281 : decode cX11_isStepRead 281 = .ok (.bipush 9, 2) := dAt tX11_isStepRead_261_ok 13 rfl
theorem dX11_isStepRead_283 : decode cX11_isStepRead 283 = .ok (.invokevirtual 85, 3) := dAt tX11_isStepRead_261_ok 14 rfl
theorem dX11_isStepRead_286 : decode cX11_isStepRead 286 = .ok (.ireturn, 1) := dAt tX11_isStepRead_261_ok 15 rfl
theorem dX11_isStepRead_287 : decode cX11_isStepRead 287 = .ok (.aload_n 0, 1) := dAt tX11_isStepRead_261_ok 16 rfl
theorem dX11_isStepRead_288 : decode cX11_isStepRead 288 = .ok (.iconst 1, 1) := dAt tX11_isStepRead_261_ok 17 rfl
theorem dX11_isStepRead_289 : decode cX11_isStepRead 289 = .ok (.iconst 0, 1) := dAt tX11_isStepRead_261_ok 18 rfl
theorem dX11_isStepRead_290 : decode cX11_isStepRead 290 = .ok (.bipush 7, 2) := dAt tX11_isStepRead_261_ok 19 rfl
theorem dX11_isStepRead_292 : decode cX11_isStepRead 292 = .ok (.invokevirtual 85, 3) := dAt tX11_isStepRead_261_ok 20 rfl
theorem dX11_isStepRead_295 : decode cX11_isStepRead 295 = .ok (.ifCond .eq 42, 3) := dAt tX11_isStepRead_261_ok 21 rfl
theorem dX11_isStepRead_298 : decode cX11_isStepRead 298 = .ok (.aload_n 0, 1) := dAt tX11_isStepRead_261_ok 22 rfl
theorem dX11_isStepRead_299 : decode cX11_isStepRead 299 = .ok (.bipush 60, 2) := dAt tX11_isStepRead_261_ok 23 rfl
theorem dX11_isStepRead_301 : decode cX11_isStepRead 301 = .ok (.invokevirtual 96, 3) := dAt tX11_isStepRead_261_ok 24 rfl
theorem dX11_isStepRead_304 : decode cX11_isStepRead 304 = .ok (.ifCond .eq 33, 3) := dAt tX11_isStepRead_261_ok 25 rfl
theorem dX11_isStepRead_307 : decode cX11_isStepRead 307 = .ok (.aload_n 0, 1) := dAt tX11_isStepRead_261_ok 26 rfl
theorem dX11_isStepRead_308 : decode cX11_isStepRead 308 = .ok (.invokevirtual 102, 3) := dAt tX11_isStepRead_261_ok 27 rfl
theorem dX11_isStepRead_311 : decode cX11_isStepRead 311 = .ok (.ifCond .eq 26, 3) := dAt tX11_isStepRead_261_ok 28 rfl
theorem dX11_isStepRead_314 : decode cX11_isStepRead 314 = .ok (.aload_n 0, 1) := dAt tX11_isStepRead_261_ok 29 rfl
theorem dX11_isStepRead_315 : decode cX11_isStepRead 315 = .ok (.bipush 58, 2) := dAt tX11_isStepRead_261_ok 30 rfl
theorem dX11_isStepRead_317 : decode cX11_isStepRead 317 = .ok (.invokevirtual 96, 3) := dAt tX11_isStepRead_261_ok 31 rfl
theorem dX11_isStepRead_320 : decode cX11_isStepRead 320 = .ok (.ifCond .eq 17, 3) := dAt tX11_isStepRead_261_ok 32 rfl
theorem dX11_isStepRead_323 : decode cX11_isStepRead 323 = .ok (.aload_n 0, 1) := dAt tX11_isStepRead_261_ok 33 rfl
theorem dX11_isStepRead_324 : decode cX11_isStepRead 324 = .ok (.iload_n 1, 1) := dAt tX11_isStepRead_261_ok 34 rfl
theorem dX11_isStepRead_325 : decode cX11_isStepRead 325 = .ok (.iconst 0, 1) := dAt tX11_isStepRead_261_ok 35 rfl
theorem dX11_isStepRead_326 : decode cX11_isStepRead 326 = .ok (.iconst 1, 1) := dAt tX11_isStepRead_261_ok 36 rfl
theorem dX11_isStepRead_327 : decode cX11_isStepRead 327 = .ok (.invokevirtual 108, 3) := dAt tX11_isStepRead_261_ok 37 rfl
theorem dX11_isStepRead_330 : decode cX11_isStepRead 330 = .ok (.ifCond .eq 7, 3) := dAt tX11_isStepRead_261_ok 38 rfl
theorem dX11_isStepRead_333 : decode cX11_isStepRead 333 = .ok (.iconst 1, 1) := dAt tX11_isStepRead_261_ok 39 rfl
theorem dX11_isStepRead_334 : decode cX11_isStepRead 334 = .ok (.goto 4, 3) := dAt tX11_isStepRead_261_ok 40 rfl
theorem dX11_isStepRead_337 : decode cX11_isStepRead 337 = .ok (.iconst 0, 1) := dAt tX11_isStepRead_261_ok 41 rfl
theorem dX11_isStepRead_338 : decode cX11_isStepRead 338 = .ok (.ireturn, 1) := dAt tX11_isStepRead_261_ok 42 rfl
theorem dX11_isStepRead_339 : decode cX11_isStepRead 339 = .ok (.aload_n 0, 1) := dAt tX11_isStepRead_261_ok 43 rfl
theorem dX11_isStepRead_340 : decode cX11_isStepRead 340 = .ok (.dup, 1) := dAt tX11_isStepRead_261_ok 44 rfl
theorem dX11_isStepRead_341 : decode cX11_isStepRead 341 = .ok (.getfield 99, 3) := dAt tX11_isStepRead_261_ok 45 rfl
theorem dX11_isStepRead_344 : decode cX11_isStepRead 344 = .ok (.iload 4, 2) := dAt tX11_isStepRead_261_ok 46 rfl
theorem dX11_isStepRead_346 : decode cX11_isStepRead 346 = .ok (.bipush 40, 2) := dAt tX11_isStepRead_261_ok 47 rfl
def tX11_isStepRead_348 : List (Nat × Instr × Nat) := [(348, .if_icmp .ne 7, 3), (351, .iconst 1, 1), (352, .goto 15, 3), (355, .iload 4, 2), (357, .bipush 41, 2), (359, .if_icmp .ne 7, 3), (362, .iconst (-1), 1), (363, .goto 4, 3), (366, .iconst 0, 1), (367, .iadd, 1), (368, .putfield 99, 3), (371, .iconst 1, 1), (372, .ireturn, 1)]
theorem tX11_isStepRead_348_ok : dAll cX11_isStepRead tX11_isStepRead_348 = true := by decide +kernel
theorem dX11_isStepRead_348 : decode cX11_isStepRead 348 = .ok (.if_icmp .ne 7, 3) := dAt tX11_isStepRead_348_ok 0 rfl
theorem dX11_isStepRead_351 : decode cX11_isStepRead 351 = .ok (.iconst 1, 1) := dAt tX11_isStepRead_348_ok 1 rfl
theorem dX11_isStepRead_352 : decode cX11_isStepRead 352 = .ok (.goto 15, 3) := dAt tX11_isStepRead_348_ok 2 rfl
theorem dX11_isStepRead_355 : decode cX11_isStepRead 355 = .ok (.iload 4, 2) := dAt tX11_isStepRead_348_ok 3 rfl
theorem dX11_isStepRead_357 : decode cX11_isStepRead 357 = .ok (.bipush 41, 2) := dAt tX11_isStepRead_348_ok 4 rfl
theorem dX11_isStepRead_359 : decode cX11_isStepRead 359 = .ok (.if_icmp .ne 7, 3) := dAt tX11_isStepRead_348_ok 5 rfl
theorem dX11_isStepRead_362 : decode cX11_isStepRead 362 = .ok (.iconst (-1), 1) := dAt tX11_isStepRead_348_ok 6 rfl
theorem dX11_isStepRead_363 : decode cX11_isStepRead 363 = .ok (.goto 4, 3) := dAt tX11_isStepRead_348_ok 7 rfl
theorem dX11_isStepRead_366 : decode cX11_isStepRead 366 = .ok (.iconst 0, 1) := dAt tX11_isStepRead_348_ok 8 rfl
theorem dX11_isStepRead_367 : decode cX11_isStepRead 367 = .ok (.iadd, 1) := dAt tX11_isStepRead_348_ok 9 rfl
theorem dX11_isStepRead_368 : decode cX11_isStepRead 368 = .ok (.putfield 99, 3) := dAt tX11_isStepRead_348_ok 10 rfl
theorem dX11_isStepRead_371 : decode cX11_isStepRead 371 = .ok (.iconst 1, 1) := dAt tX11_isStepRead_348_ok 11 rfl
theorem dX11_isStepRead_372 : decode cX11_isStepRead 372 = .ok (.ireturn, 1) := dAt tX11_isStepRead_348_ok 12 rfl
def tX11_isStepsRead_0 : List (Nat × Instr × Nat) := [(0, .aload_n 0, 1), (1, .iload_n 1, 1), (2, .iload_n 2, 1), (3, .iconst 0, 1), (4, .invokevirtual 108, 3), (7, .istore_n 3, 1), (8, .iconst 1, 1), (9, .istore 4, 2), (11, .iload_n 3, 1), (12, .ifCond .eq 36, 3), (15, .aload_n 0, 1), (16, .invokevirtual 74, 3), (19, .bipush 59, 2), (21, .if_icmp .ne 27, 3), (24, .aload_n 0, 1), (25, .dup, 1), (26, .getfield 65, 3), (29, .iconst 1, 1), (30, .iadd, 1), (31, .putfield 65, 3), (34, .iinc 4 1, 3), (37, .aload_n 0, 1), (38, .iload_n 1, 1), (39, .iload_n 2, 1), (40, .iconst 0, 1), (41, .invokevirtual 108, 3), (44, .istore_n 3, 1), (45, .goto (-34), 3), (48, .aload_n 0, 1), (49, .iload 4, 2), (51, .putfield 112, 3), (54, .iload_n 3, 1), (55, .ireturn, 1)]
theorem tX11_isStepsRead_0_ok : dAll cX11_isStepsRead tX11_isStepsRead_0 = true := by decide +kernel
theorem dX11_isStepsRead_0 : decode cX11_isStepsRead 0 = .ok (.aload_n 0, 1) := dAt tX11_isStepsRead_0_ok 0 rfl
theorem dX11_isStepsRead_1 : decode cX11_isStepsRead 1 = .ok (.iload_n 1, 1) := dAt tX11_isStepsRead_0_ok 1 rfl
theorem dX11_isStepsRead_2 : decode cX11_isStepsRead 2 = .ok (.iload_n 2, 1) := dAt tX11_isStepsRead_0_ok 2 rfl
theorem dX11_isStepsRead_3 : decode cX11_isStepsRead 3 = .ok (.iconst 0, 1) := dAt tX11_isStepsRead_0_ok 3 rfl
theorem dX11_isStepsRead_4 : decode cX11_isStepsRead 4 = .ok (.invokevirtual 108, 3) := dAt tX11_isStepsRead_0_ok 4 rfl
theorem dX11_isStepsRead_7 : decode cX11_isStepsRead 7 = .ok (.istore_n 3, 1) := dAt tX11_isStepsRead_0_ok 5 rfl
theorem dX11_isStepsRead_8 : decode cX11_isStepsRead 8 = .ok (.iconst 1, 1) := dAt tX11_isStepsRead_0_ok 6 rfl
theorem dX11_isStepsRead_9 : decode cX11_isStepsRead 9 = .ok (.istore 4, 2) := dAt tX11_isStepsRead_0_ok 7 rfl
theorem dX11_isStepsRead_11 : decode cX11_isStepsRead 11 = .ok (.iload_n 3, 1) := dAt tX11_isStepsRead_0_ok 8 rfl
theorem dX11_isStepsRead_12 : decode cX11_isStepsRead 12 = .ok (.ifCond .eq 36, 3) := dAt tX11_isStepsRead_0_ok 9 rfl
theorem dX11_isStepsRead_15 : decode cX11_isStepsRead 15 = .ok (.aload_n 0, 1) := dAt tX11_isStepsRead_0_ok 10 rfl
theorem dX11_isStepsRead_16 : decode cX11_isStepsRead 16 = .ok (.invokevirtual 74, 3) := dAt tX11_isStepsRead_0_ok 11 rfl
theorem dX11_isStepsRead_19 : decode cX11_isStepsRead 19 = .ok (.bipush 59, 2) := dAt tX11_isStepsRead_0_ok 12 rfl
theorem dX11_isStepsRead_21 : decode cX11_isStepsRead 21 = .ok (.if_icmp .ne 27, 3) := dAt tX11_isStepsRead_0_ok 13 rfl
theorem dX11_isStepsRead_24 : decode cX11_isStepsRead 24 = .ok (.aload_n 0, 1) := dAt tX11_isStepsRead_0_ok 14 rfl
theorem dX11_isStepsRead_25 : decode cX11_isStepsRead 25 = .ok (.dup, 1) := dAt tX11_isStepsRead_0_ok 15 rfl
theorem dX11_isStepsRead_26 : decode cX11_isStepsRead 26 = .ok (.getfield 65, 3) := dAt tX11_isStepsRead_0_ok 16 rfl
theorem dX11_isStepsRead_29 : decode cX11_isStepsRead 29 = .ok (.iconst 1, 1) := dAt tX11_isStepsRead_0_ok 17 rfl
theorem dX11_isStepsRead_30 : decode cX11_isStepsRead 30 = .ok (.iadd, 1) := dAt tX11_isStepsRead_0_ok 18 rfl
theorem dX11_isStepsRead_31 : decode cX11_isStepsRead 31 = .ok (.putfield 65, 3) := dAt tX11_isStepsRead_0_ok 19 rfl
theorem dX11_isStepsRead_34 : decode cX11_isStepsRead 34 = .ok (.iinc 4 1, 3) := dAt tX11_isStepsRead_0_ok 20 rfl
theorem dX11_isStepsRead_37 : decode cX11_isStepsRead 37 = .ok (.aload_n 0, 1) := dAt tX11_isStepsRead_0_ok 21 rfl
theorem dX11_isStepsRead_38 : decode cX11_isStepsRead 38 = .ok (.iload_n 1, 1) := dAt tX11_isStepsRead_0_ok 22 rfl
theorem dX11_isStepsRead_39 : decode cX11_isStepsRead 39 = .ok (.iload_n 2, 1) := dAt tX11_isStepsRead_0_ok 23 rfl
theorem dX11_isStepsRead_40 : decode cX11_isStepsRead 40 = .ok (.iconst 0, 1) := dAt tX11_isStepsRead_0_ok 24 rfl
theorem dX11_isStepsRead_41 : decode cX11_isStepsRead 41 = .ok (.invokevirtual 108, 3) := dAt tX11_isStepsRead_0_ok 25 rfl
theorem dX11_isStepsRead_44 : decode cX11_isStepsRead 44 = .ok (.istore_n 3, 1) := dAt tX11_isStepsRead_0_ok 26 rfl
theorem dX11_isStepsRead_45 : decode cX11_isStepsRead 45 = .ok (.goto (-34), 3) := dAt tX11_isStepsRead_0_ok 27 rfl
theorem dX11_isStepsRead_48 : decode cX11_isStepsRead 48 = .ok (.aload_n 0, 1) := dAt tX11_isStepsRead_0_ok 28 rfl
theorem dX11_isStepsRead_49 : decode cX11_isStepsRead 49 = .ok (.iload 4, 2) := dAt tX11_isStepsRead_0_ok 29 rfl
theorem dX11_isStepsRead_51 : decode cX11_isStepsRead 51 = .ok (.putfield 112, 3) := dAt tX11_isStepsRead_0_ok 30 rfl
theorem dX11_isStepsRead_54 : decode cX11_isStepsRead 54 = .ok (.iload_n 3, 1) := dAt tX11_isStepsRead_0_ok 31 rfl
theorem dX11_isStepsRead_55 : decode cX11_isStepsRead 55 = .ok (.ireturn, 1) := dAt tX11_isStepsRead_0_ok 32 rfl
def tX11_begins_0 : List (Nat × Instr × Nat) := [(0, .aload_n 0, 1), (1, .aload_n 1, 1), (2, .putfield 27, 3), (5, .aload_n 0, 1), (6, .iload_n 2, 1), (7, .putfield 65, 3), (10, .aload_n 0, 1), (11, .iload_n 3, 1), (12, .putfield 68, 3), (15, .aload_n 0, 1), (16, .iconst (-1), 1), (17, .putfield 71, 3), (20, .aload_n 0, 1), (21, .iconst 0, 1), (22, .putfield 99, 3), (25, .return_, 1)]
theorem tX11_begins_0_ok : dAll cX11_begins tX11_begins_0 = true := by decide +kernel
theorem dX11_begins_0 : decode cX11_begins 0 = .ok (.aload_n 0, 1) := dAt tX11_begins_0_ok 0 rfl
theorem dX11_begins_1 : decode cX11_begins 1 = .ok (.aload_n 1, 1) := dAt tX11_begins_0_ok 1 rfl
theorem dX11_begins_2 : decode cX11_begins 2 = .ok (.putfield 27, 3) := dAt tX11_begins_0_ok 2 rfl
theorem dX11_begins_5 : decode cX11_begins 5 = .ok (.aload_n 0, 1) := dAt tX11_begins_0_ok 3 rfl
theorem dX11_begins_6 : decode cX11_begins 6 = .ok (.iload_n 2, 1) := dAt tX11_begins_0_ok 4 rfl
theorem dX11_begins_7 : decode cX11_begins 7 = .ok (.putfield 65, 3) := dAt tX11_begins_0_ok 5 rfl
theorem dX11_begins_10 : decode cX11_begins 10 = .ok (.aload_n 0, 1) := dAt tX11_begins_0_ok 6 rfl
theorem dX11_begins_11 : decode cX11_begins 11 = .ok (.iload_n 3, 1) := dAt tX11_begins_0_ok 7 rfl
theorem dX11_begins_12 : decode cX11_begins 12 = .ok (.putfield 68, 3) := dAt tX11_begins_0_ok 8 rfl
theorem dX11_begins_15 : decode cX11_begins 15 = .ok (.aload_n 0, 1) := dAt tX11_begins_0_ok 9 rfl
theorem dX11_begins_16 : decode cX11_begins 16 = .ok (.iconst (-1), 1) := dAt tX11_begins_0_ok 10 rfl
theorem dX11_begins_17 : decode cX11_begins 17 = .ok (.putfield 71, 3) := dAt tX11_begins_0_ok 11 rfl
theorem dX11_begins_20 : decode cX11_begins 20 = .ok (.aload_n 0, 1) := dAt tX11_begins_0_ok 12 rfl
theorem dX11_begins_21 : decode cX11_begins 21 = .ok (.iconst 0, 1) := dAt tX11_begins_0_ok 13 rfl
theorem dX11_begins_22 : decode cX11_begins 22 = .ok (.putfield 99, 3) := dAt tX11_begins_0_ok 14 rfl
theorem dX11_begins_25 : decode cX11_begins 25 = .ok (.return_, 1) := dAt tX11_begins_0_ok 15 rfl
def tX11_isWhole_0 : List (Nat × Instr × Nat) := [(0, .aload_n 0, 1), (1, .getfield 65, 3), (4, .aload_n 0, 1), (5, .getfield 68, 3), (8, .if_icmp .ne 10, 3), (11, .aload_n 0, 1), (12, .getfield 99, 3), (15, .ifCond .eq 14, 3), (18, .aload_n 0, 1), (19, .aload_n 0, 1), (20, .getfield 65, 3), (23, .invokevirtual 78, 3), (26, .ifCond .eq 7, 3), (29, .iconst 1, 1), (30, .goto 4, 3), (33, .iconst 0, 1), (34, .ireturn, 1)]
theorem tX11_isWhole_0_ok : dAll cX11_isWhole tX11_isWhole_0 = true := by decide +kernel
theorem dX11_isWhole_0 : decode cX11_isWhole 0 = .ok (.aload_n 0, 1) := dAt tX11_isWhole_0_ok 0 rfl
theorem dX11_isWhole_1 : decode cX11_isWhole 1 = .ok (.getfield 65, 3) := dAt tX11_isWhole_0_ok 1 rfl
theorem dX11_isWhole_4 : decode cX11_isWhole 4 = .ok (.aload_n 0, 1) := dAt tX11_isWhole_0_ok 2 rfl
theorem dX11_isWhole_5 : decode cX11_isWhole 5 = .ok (.getfield 68, 3) := dAt tX11_isWhole_0_ok 3 rfl
theorem dX11_isWhole_8 : decode cX11_isWhole 8 = .ok (.if_icmp .ne 10, 3) := dAt tX11_isWhole_0_ok 4 rfl
theorem dX11_isWhole_11 : decode cX11_isWhole 11 = .ok (.aload_n 0, 1) := dAt tX11_isWhole_0_ok 5 rfl
theorem dX11_isWhole_12 : decode cX11_isWhole 12 = .ok (.getfield 99, 3) := dAt tX11_isWhole_0_ok 6 rfl
theorem dX11_isWhole_15 : decode cX11_isWhole 15 = .ok (.ifCond .eq 14, 3) := dAt tX11_isWhole_0_ok 7 rfl
theorem dX11_isWhole_18 : decode cX11_isWhole 18 = .ok (.aload_n 0, 1) := dAt tX11_isWhole_0_ok 8 rfl
theorem dX11_isWhole_19 : decode cX11_isWhole 19 = .ok (.aload_n 0, 1) := dAt tX11_isWhole_0_ok 9 rfl
theorem dX11_isWhole_20 : decode cX11_isWhole 20 = .ok (.getfield 65, 3) := dAt tX11_isWhole_0_ok 10 rfl
theorem dX11_isWhole_23 : decode cX11_isWhole 23 = .ok (.invokevirtual 78, 3) := dAt tX11_isWhole_0_ok 11 rfl
theorem dX11_isWhole_26 : decode cX11_isWhole 26 = .ok (.ifCond .eq 7, 3) := dAt tX11_isWhole_0_ok 12 rfl
theorem dX11_isWhole_29 : decode cX11_isWhole 29 = .ok (.iconst 1, 1) := dAt tX11_isWhole_0_ok 13 rfl
theorem dX11_isWhole_30 : decode cX11_isWhole 30 = .ok (.goto 4, 3) := dAt tX11_isWhole_0_ok 14 rfl
theorem dX11_isWhole_33 : decode cX11_isWhole 33 = .ok (.iconst 0, 1) := dAt tX11_isWhole_0_ok 15 rfl
theorem dX11_isWhole_34 : decode cX11_isWhole 34 = .ok (.ireturn, 1) := dAt tX11_isWhole_0_ok 16 rfl
def tX11_stepsIn_0 : List (Nat × Instr × Nat) := [(0, .iload_n 1, 1), (1, .iload_n 2, 1), (2, .if_icmp .ne 5, 3), (5, .iconst 0, 1), (6, .ireturn, 1), (7, .aload_n 0, 1), (8, .aload_n 0, 1), (9, .getfield 21, 3), (12, .iload_n 1, 1), (13, .iload_n 2, 1), (14, .invokevirtual 115, 3), (17, .aload_n 0, 1), (18, .bipush 90, 2), (20, .putfield 99, 3), (23, .aload_n 0, 1), (24, .iconst 0, 1), (25, .iconst 1, 1), (26, .invokevirtual 92, 3), (29, .pop, 1), (30, .aload_n 0, 1), (31, .getfield 112, 3), (34, .ireturn, 1)]
theorem tX11_stepsIn_0_ok : dAll cX11_stepsIn tX11_stepsIn_0 = true := by decide +kernel
theorem dX11_stepsIn_0 : decode cX11_stepsIn 0 = .ok (.iload_n 1, 1) := dAt tX11_stepsIn_0_ok 0 rfl
theorem dX11_stepsIn_1 : decode cX11_stepsIn 1 = .ok (.iload_n 2, 1) := dAt tX11_stepsIn_0_ok 1 rfl
theorem dX11_stepsIn_2 : decode cX11_stepsIn 2 = .ok (.if_icmp .ne 5, 3) := dAt tX11_stepsIn_0_ok 2 rfl
theorem dX11_stepsIn_5 : decode cX11_stepsIn 5 = .ok (.iconst 0, 1) := dAt tX11_stepsIn_0_ok 3 rfl
theorem dX11_stepsIn_6 : decode cX11_stepsIn 6 = .ok (.ireturn, 1) := dAt tX11_stepsIn_0_ok 4 rfl
theorem dX11_stepsIn_7 : decode cX11_stepsIn 7 = .ok (.aload_n 0, 1) := dAt tX11_stepsIn_0_ok 5 rfl
theorem dX11_stepsIn_8 : decode cX11_stepsIn 8 = .ok (.aload_n 0, 1) := dAt tX11_stepsIn_0_ok 6 rfl
theorem dX11_stepsIn_9 : decode cX11_stepsIn 9 = .ok (.getfield 21, 3) := dAt tX11_stepsIn_0_ok 7 rfl
theorem dX11_stepsIn_12 : decode cX11_stepsIn 12 = .ok (.iload_n 1, 1) := dAt tX11_stepsIn_0_ok 8 rfl
theorem dX11_stepsIn_13 : decode cX11_stepsIn 13 = .ok (.iload_n 2, 1) := dAt tX11_stepsIn_0_ok 9 rfl
theorem dX11_stepsIn_14 : decode cX11_stepsIn 14 = .ok (.invokevirtual 115, 3) := dAt tX11_stepsIn_0_ok 10 rfl
theorem dX11_stepsIn_17 : decode cX11_stepsIn 17 = .ok (.aload_n 0, 1) := dAt tX11_stepsIn_0_ok 11 rfl
theorem dX11_stepsIn_18 : decode cX11_stepsIn 18 = .ok (.bipush 90, 2) := dAt tX11_stepsIn_0_ok 12 rfl
theorem dX11_stepsIn_20 : decode cX11_stepsIn 20 = .ok (.putfield 99, 3) := dAt tX11_stepsIn_0_ok 13 rfl
theorem dX11_stepsIn_23 : decode cX11_stepsIn 23 = .ok (.aload_n 0, 1) := dAt tX11_stepsIn_0_ok 14 rfl
theorem dX11_stepsIn_24 : decode cX11_stepsIn 24 = .ok (.iconst 0, 1) := dAt tX11_stepsIn_0_ok 15 rfl
theorem dX11_stepsIn_25 : decode cX11_stepsIn 25 = .ok (.iconst 1, 1) := dAt tX11_stepsIn_0_ok 16 rfl
theorem dX11_stepsIn_26 : decode cX11_stepsIn 26 = .ok (.invokevirtual 92, 3) := dAt tX11_stepsIn_0_ok 17 rfl
theorem dX11_stepsIn_29 : decode cX11_stepsIn 29 = .ok (.pop, 1) := dAt tX11_stepsIn_0_ok 18 rfl
theorem dX11_stepsIn_30 : decode cX11_stepsIn 30 = .ok (.aload_n 0, 1) := dAt tX11_stepsIn_0_ok 19 rfl
theorem dX11_stepsIn_31 : decode cX11_stepsIn 31 = .ok (.getfield 112, 3) := dAt tX11_stepsIn_0_ok 20 rfl
theorem dX11_stepsIn_34 : decode cX11_stepsIn 34 = .ok (.ireturn, 1) := dAt tX11_stepsIn_0_ok 21 rfl
def tX11_pooled_0 : List (Nat × Instr × Nat) := [(0, .aload_n 0, 1), (1, .getfield 11, 3), (4, .bipush 8, 2), (6, .iaload, 1), (7, .istore_n 3, 1), (8, .iload_n 1, 1), (9, .istore 4, 2), (11, .iload 4, 2), (13, .iload_n 2, 1), (14, .if_icmp .ge 27, 3), (17, .aload_n 0, 1), (18, .getfield 21, 3), (21, .iload_n 3, 1), (22, .iload 4, 2), (24, .iadd, 1), (25, .iload_n 1, 1), (26, .isub, 1), (27, .aload_n 0, 1), (28, .getfield 24, 3), (31, .iload 4, 2), (33, .iaload, 1), (34, .iastore, 1), (35, .iinc 4 1, 3), (38, .goto (-27), 3), (41, .aload_n 0, 1), (42, .getfield 21, 3), (45, .iload_n 3, 1), (46, .iload_n 2, 1), (47, .iadd, 1), (48, .iload_n 1, 1), (49, .isub, 1), (50, .iconst 0, 1), (51, .iastore, 1), (52, .aload_n 0, 1), (53, .getfield 11, 3), (56, .bipush 8, 2), (58, .dup2, 1), (59, .iaload, 1), (60, .iload_n 2, 1), (61, .iload_n 1, 1), (62, .isub, 1)]
theorem tX11_pooled_0_ok : dAll cX11_pooled tX11_pooled_0 = true := by decide +kernel
theorem dX11_pooled_0 : decode cX11_pooled 0 = .ok (.aload_n 0, 1) := dAt tX11_pooled_0_ok 0 rfl
theorem dX11_pooled_1 : decode cX11_pooled 1 = .ok (.getfield 11, 3) := dAt tX11_pooled_0_ok 1 rfl
theorem dX11_pooled_4 : decode cX11_pooled 4 = .ok (.bipush 8, 2) := dAt tX11_pooled_0_ok 2 rfl
theorem dX11_pooled_6 : decode cX11_pooled 6 = .ok (.iaload, 1) := dAt tX11_pooled_0_ok 3 rfl
theorem dX11_pooled_7 : decode cX11_pooled 7 = .ok (.istore_n 3, 1) := dAt tX11_pooled_0_ok 4 rfl
theorem dX11_pooled_8 : decode cX11_pooled 8 = .ok (.iload_n 1, 1) := dAt tX11_pooled_0_ok 5 rfl
theorem dX11_pooled_9 : decode cX11_pooled 9 = .ok (.istore 4, 2) := dAt tX11_pooled_0_ok 6 rfl
theorem dX11_pooled_11 : decode cX11_pooled 11 = .ok (.iload 4, 2) := dAt tX11_pooled_0_ok 7 rfl
theorem dX11_pooled_13 : decode cX11_pooled 13 = .ok (.iload_n 2, 1) := dAt tX11_pooled_0_ok 8 rfl
theorem dX11_pooled_14 : decode cX11_pooled 14 = .ok (.if_icmp .ge 27, 3) := dAt tX11_pooled_0_ok 9 rfl
theorem dX11_pooled_17 : decode cX11_pooled 17 = .ok (.aload_n 0, 1) := dAt tX11_pooled_0_ok 10 rfl
theorem dX11_pooled_18 : decode cX11_pooled 18 = .ok (.getfield 21, 3) := dAt tX11_pooled_0_ok 11 rfl
theorem dX11_pooled_21 : decode cX11_pooled 21 = .ok (.iload_n 3, 1) := dAt tX11_pooled_0_ok 12 rfl
theorem dX11_pooled_22 : decode cX11_pooled 22 = .ok (.iload 4, 2) := dAt tX11_pooled_0_ok 13 rfl
theorem dX11_pooled_24 : decode cX11_pooled 24 = .ok (.iadd, 1) := dAt tX11_pooled_0_ok 14 rfl
theorem dX11_pooled_25 : decode cX11_pooled 25 = .ok (.iload_n 1, 1) := dAt tX11_pooled_0_ok 15 rfl
theorem dX11_pooled_26 : decode cX11_pooled 26 = .ok (.isub, 1) := dAt tX11_pooled_0_ok 16 rfl
theorem dX11_pooled_27 : decode cX11_pooled 27 = .ok (.aload_n 0, 1) := dAt tX11_pooled_0_ok 17 rfl
theorem dX11_pooled_28 : decode cX11_pooled 28 = .ok (.getfield 24, 3) := dAt tX11_pooled_0_ok 18 rfl
theorem dX11_pooled_31 : decode cX11_pooled 31 = .ok (.iload 4, 2) := dAt tX11_pooled_0_ok 19 rfl
theorem dX11_pooled_33 : decode cX11_pooled 33 = .ok (.iaload, 1) := dAt tX11_pooled_0_ok 20 rfl
theorem dX11_pooled_34 : decode cX11_pooled 34 = .ok (.iastore, 1) := dAt tX11_pooled_0_ok 21 rfl
theorem dX11_pooled_35 : decode cX11_pooled 35 = .ok (.iinc 4 1, 3) := dAt tX11_pooled_0_ok 22 rfl
theorem dX11_pooled_38 : decode cX11_pooled 38 = .ok (.goto (-27), 3) := dAt tX11_pooled_0_ok 23 rfl
theorem dX11_pooled_41 : decode cX11_pooled 41 = .ok (.aload_n 0, 1) := dAt tX11_pooled_0_ok 24 rfl
theorem dX11_pooled_42 : decode cX11_pooled 42 = .ok (.getfield 21, 3) := dAt tX11_pooled_0_ok 25 rfl
theorem dX11_pooled_45 : decode cX11_pooled 45 = .ok (.iload_n 3, 1) := dAt tX11_pooled_0_ok 26 rfl
theorem dX11_pooled_46 : decode cX11_pooled 46 = .ok (.iload_n 2, 1) := dAt tX11_pooled_0_ok 27 rfl
theorem dX11_pooled_47 : decode cX11_pooled 47 = .ok (.iadd, 1) := dAt tX11_pooled_0_ok 28 rfl
theorem dX11_pooled_48 : decode cX11_pooled 48 = .ok (.iload_n 1, 1) := dAt tX11_pooled_0_ok 29 rfl
theorem dX11_pooled_49 : decode cX11_pooled 49 = .ok (.isub, 1) := dAt tX11_pooled_0_ok 30 rfl
theorem dX11_pooled_50 : decode cX11_pooled 50 = .ok (.iconst 0, 1) := dAt tX11_pooled_0_ok 31 rfl
theorem dX11_pooled_51 : decode cX11_pooled 51 = .ok (.iastore, 1) := dAt tX11_pooled_0_ok 32 rfl
theorem dX11_pooled_52 : decode cX11_pooled 52 = .ok (.aload_n 0, 1) := dAt tX11_pooled_0_ok 33 rfl
theorem dX11_pooled_53 : decode cX11_pooled 53 = .ok (.getfield 11, 3) := dAt tX11_pooled_0_ok 34 rfl
theorem dX11_pooled_56 : decode cX11_pooled 56 = .ok (.bipush 8, 2) := dAt tX11_pooled_0_ok 35 rfl
theorem dX11_pooled_58 : decode cX11_pooled 58 = .ok (.dup2, 1) := dAt tX11_pooled_0_ok 36 rfl
theorem dX11_pooled_59 : decode cX11_pooled 59 = .ok (.iaload, 1) := dAt tX11_pooled_0_ok 37 rfl
theorem dX11_pooled_60 : decode cX11_pooled 60 = .ok (.iload_n 2, 1) := dAt tX11_pooled_0_ok 38 rfl
theorem dX11_pooled_61 : decode cX11_pooled 61 = .ok (.iload_n 1, 1) := dAt tX11_pooled_0_ok 39 rfl
theorem dX11_pooled_62 : decode cX11_pooled 62 = .ok (.isub, 1) := dAt tX11_pooled_0_ok 40 rfl
