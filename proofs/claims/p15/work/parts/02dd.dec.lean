theorem dX11_entryAhead_17 : decode cX11_entryAhead 17 = .ok (.iload_n 1, 1) := by decide +kernel
theorem dX11_entryAhead_18 : decode cX11_entryAhead 18 = .ok (.invokevirtual 255, 3) := by decide +kernel
theorem dX11_entryAhead_21 : decode cX11_entryAhead 21 = .ok (.ifCond .eq 34, 3) := by decide +kernel
theorem dX11_entryAhead_24 : decode cX11_entryAhead 24 = .ok (.aload_n 0, 1) := by decide +kernel
theorem dX11_entryAhead_25 : decode cX11_entryAhead 25 = .ok (.iload 4, 2) := by decide +kernel
theorem dX11_entryAhead_27 : decode cX11_entryAhead 27 = .ok (.invokevirtual 258, 3) := by decide +kernel
theorem dX11_entryAhead_30 : decode cX11_entryAhead 30 = .ok (.iload_n 2, 1) := by decide +kernel
theorem dX11_entryAhead_31 : decode cX11_entryAhead 31 = .ok (.if_icmp .ge 24, 3) := by decide +kernel
theorem dX11_entryAhead_34 : decode cX11_entryAhead 34 = .ok (.iload_n 3, 1) := by decide +kernel
theorem dX11_entryAhead_35 : decode cX11_entryAhead 35 = .ok (.ifCond .lt 17, 3) := by decide +kernel
theorem dX11_entryAhead_38 : decode cX11_entryAhead 38 = .ok (.aload_n 0, 1) := by decide +kernel
theorem dX11_entryAhead_39 : decode cX11_entryAhead 39 = .ok (.iload 4, 2) := by decide +kernel
theorem dX11_entryAhead_41 : decode cX11_entryAhead 41 = .ok (.invokevirtual 258, 3) := by decide +kernel
theorem dX11_entryAhead_44 : decode cX11_entryAhead 44 = .ok (.aload_n 0, 1) := by decide +kernel
theorem dX11_entryAhead_45 : decode cX11_entryAhead 45 = .ok (.iload_n 3, 1) := by decide +kernel
theorem dX11_entryAhead_46 : decode cX11_entryAhead 46 = .ok (.invokevirtual 258, 3) := by decide +kernel
theorem dX11_entryAhead_49 : decode cX11_entryAhead 49 = .ok (.if_icmp .le 6, 3) := by decide +kernel
theorem dX11_entryAhead_52 : decode cX11_entryAhead 52 = .ok (.iload 4, 2) := by decide +kernel
theorem dX11_entryAhead_54 : decode cX11_entryAhead 54 = .ok (.istore_n 3, 1) := by decide +kernel
theorem dX11_entryAhead_55 : decode cX11_entryAhead 55 = .ok (.iinc 4 1, 3) := by decide +kernel
theorem dX11_entryAhead_58 : decode cX11_entryAhead 58 = .ok (.goto (-52), 3) := by decide +kernel
theorem dX11_entryAhead_61 : decode cX11_entryAhead 61 = .ok (.iload_n 3, 1) := by decide +kernel
theorem dX11_entryAhead_62 : decode cX11_entryAhead 62 = .ok (.ireturn, 1) := by decide +kernel
theorem dX11_entry_0 : decode cX11_entry 0 = .ok (.aload_n 0, 1) := by decide +kernel
theorem dX11_entry_1 : decode cX11_entry 1 = .ok (.iload_n 1, 1) := by decide +kernel
theorem dX11_entry_2 : decode cX11_entry 2 = .ok (.invokevirtual 50, 3) := by decide +kernel
theorem dX11_entry_5 : decode cX11_entry 5 = .ok (.ifCond .eq 18, 3) := by decide +kernel
theorem dX11_entry_8 : decode cX11_entry 8 = .ok (.iload_n 2, 1) := by decide +kernel
theorem dX11_entry_9 : decode cX11_entry 9 = .ok (.iconst 0, 1) := by decide +kernel
theorem dX11_entry_10 : decode cX11_entry 10 = .ok (.aload_n 0, 1) := by decide +kernel
theorem dX11_entry_11 : decode cX11_entry 11 = .ok (.iload_n 1, 1) := by decide +kernel
theorem dX11_entry_12 : decode cX11_entry 12 = .ok (.invokevirtual 241, 3) := by decide +kernel
theorem dX11_entry_15 : decode cX11_entry 15 = .ok (.iconst 1, 1) := by decide +kernel
theorem dX11_entry_16 : decode cX11_entry 16 = .ok (.isub, 1) := by decide +kernel
theorem dX11_entry_17 : decode cX11_entry 17 = .ok (.invokestatic 46, 3) := by decide +kernel
theorem dX11_entry_20 : decode cX11_entry 20 = .ok (.ifCond .ne 5, 3) := by decide +kernel
theorem dX11_entry_23 : decode cX11_entry 23 = .ok (.iconst (-1), 1) := by decide +kernel
theorem dX11_entry_24 : decode cX11_entry 24 = .ok (.ireturn, 1) := by decide +kernel
theorem dX11_entry_25 : decode cX11_entry 25 = .ok (.aload_n 0, 1) := by decide +kernel
theorem dX11_entry_26 : decode cX11_entry 26 = .ok (.iload_n 1, 1) := by decide +kernel
theorem dX11_entry_27 : decode cX11_entry 27 = .ok (.aload_n 0, 1) := by decide +kernel
theorem dX11_entry_28 : decode cX11_entry 28 = .ok (.getfield 11, 3) := by decide +kernel
theorem dX11_entry_31 : decode cX11_entry 31 = .ok (.bipush 6, 2) := by decide +kernel
theorem dX11_entry_33 : decode cX11_entry 33 = .ok (.iaload, 1) := by decide +kernel
theorem dX11_entry_34 : decode cX11_entry 34 = .ok (.iconst 1, 1) := by decide +kernel
theorem dX11_entry_35 : decode cX11_entry 35 = .ok (.iadd, 1) := by decide +kernel
theorem dX11_entry_36 : decode cX11_entry 36 = .ok (.invokevirtual 261, 3) := by decide +kernel
theorem dX11_entry_39 : decode cX11_entry 39 = .ok (.istore_n 3, 1) := by decide +kernel
theorem dX11_entry_40 : decode cX11_entry 40 = .ok (.aload_n 0, 1) := by decide +kernel
theorem dX11_entry_41 : decode cX11_entry 41 = .ok (.iload_n 1, 1) := by decide +kernel
theorem dX11_entry_42 : decode cX11_entry 42 = .ok (.invokevirtual 241, 3) := by decide +kernel
theorem dX11_entry_45 : decode cX11_entry 45 = .ok (.iconst 1, 1) := by decide +kernel
theorem dX11_entry_46 : decode cX11_entry 46 = .ok (.isub, 1) := by decide +kernel
theorem dX11_entry_47 : decode cX11_entry 47 = .ok (.istore 4, 2) := by decide +kernel
theorem dX11_entry_49 : decode cX11_entry 49 = .ok (.iload 4, 2) := by decide +kernel
theorem dX11_entry_51 : decode cX11_entry 51 = .ok (.iload_n 2, 1) := by decide +kernel
theorem dX11_entry_52 : decode cX11_entry 52 = .ok (.if_icmp .le 20, 3) := by decide +kernel
theorem dX11_entry_55 : decode cX11_entry 55 = .ok (.aload_n 0, 1) := by decide +kernel
theorem dX11_entry_56 : decode cX11_entry 56 = .ok (.iload_n 1, 1) := by decide +kernel
theorem dX11_entry_57 : decode cX11_entry 57 = .ok (.aload_n 0, 1) := by decide +kernel
theorem dX11_entry_58 : decode cX11_entry 58 = .ok (.iload_n 3, 1) := by decide +kernel
theorem dX11_entry_59 : decode cX11_entry 59 = .ok (.invokevirtual 258, 3) := by decide +kernel
theorem dX11_entry_62 : decode cX11_entry 62 = .ok (.invokevirtual 261, 3) := by decide +kernel
theorem dX11_entry_65 : decode cX11_entry 65 = .ok (.istore_n 3, 1) := by decide +kernel
theorem dX11_entry_66 : decode cX11_entry 66 = .ok (.iinc 4 (-1), 3) := by decide +kernel
theorem dX11_entry_69 : decode cX11_entry 69 = .ok (.goto (-20), 3) := by decide +kernel
theorem dX11_entry_72 : decode cX11_entry 72 = .ok (.iload_n 3, 1) := by decide +kernel
theorem dX11_entry_73 : decode cX11_entry 73 = .ok (.ireturn, 1) := by decide +kernel
theorem dX11_thing_0 : decode cX11_thing 0 = .ok (.aload_n 0, 1) := by decide +kernel
theorem dX11_thing_1 : decode cX11_thing 1 = .ok (.iload_n 1, 1) := by decide +kernel
theorem dX11_thing_2 : decode cX11_thing 2 = .ok (.invokevirtual 238, 3) := by decide +kernel
theorem dX11_thing_5 : decode cX11_thing 5 = .ok (.ifCond .ne 5, 3) := by decide +kernel
theorem dX11_thing_8 : decode cX11_thing 8 = .ok (.iconst (-1), 1) := by decide +kernel
theorem dX11_thing_9 : decode cX11_thing 9 = .ok (.ireturn, 1) := by decide +kernel
theorem dX11_thing_10 : decode cX11_thing 10 = .ok (.iload_n 2, 1) := by decide +kernel
theorem dX11_thing_11 : decode cX11_thing 11 = .ok (.tableswitch 95 0 3 #[29, 43, 55, 68], 29) := by decide +kernel
theorem dX11_thing_40 : decode cX11_thing 40 = .ok (.aload_n 0, 1) := by decide +kernel
theorem dX11_thing_41 : decode cX11_thing 41 = .ok (.iload_n 1, 1) := by decide +kernel
theorem dX11_thing_42 : decode cX11_thing 42 = .ok (.invokevirtual 119, 3) := by decide +kernel
theorem dX11_thing_45 : decode cX11_thing 45 = .ok (.ifCond .eq 7, 3) := by decide +kernel
theorem dX11_thing_48 : decode cX11_thing 48 = .ok (.iconst 0, 1) := by decide +kernel
theorem dX11_thing_49 : decode cX11_thing 49 = .ok (.goto 4, 3) := by decide +kernel
theorem dX11_thing_52 : decode cX11_thing 52 = .ok (.iconst 1, 1) := by decide +kernel
theorem dX11_thing_53 : decode cX11_thing 53 = .ok (.ireturn, 1) := by decide +kernel
theorem dX11_thing_54 : decode cX11_thing 54 = .ok (.aload_n 0, 1) := by decide +kernel
theorem dX11_thing_55 : decode cX11_thing 55 = .ok (.getfield 11, 3) := by decide +kernel
theorem dX11_thing_58 : decode cX11_thing 58 = .ok (.iload_n 1, 1) := by decide +kernel
theorem dX11_thing_59 : decode cX11_thing 59 = .ok (.iconst 1, 1) := by decide +kernel
theorem dX11_thing_60 : decode cX11_thing 60 = .ok (.iconst 0, 1) := by decide +kernel
theorem dX11_thing_61 : decode cX11_thing 61 = .ok (.invokestatic 54, 3) := by decide +kernel
theorem dX11_thing_64 : decode cX11_thing 64 = .ok (.iaload, 1) := by decide +kernel
theorem dX11_thing_65 : decode cX11_thing 65 = .ok (.ireturn, 1) := by decide +kernel
theorem dX11_thing_66 : decode cX11_thing 66 = .ok (.aload_n 0, 1) := by decide +kernel
theorem dX11_thing_67 : decode cX11_thing 67 = .ok (.getfield 11, 3) := by decide +kernel
theorem dX11_thing_70 : decode cX11_thing 70 = .ok (.iload_n 1, 1) := by decide +kernel
theorem dX11_thing_71 : decode cX11_thing 71 = .ok (.bipush 6, 2) := by decide +kernel
theorem dX11_thing_73 : decode cX11_thing 73 = .ok (.iconst 0, 1) := by decide +kernel
theorem dX11_thing_74 : decode cX11_thing 74 = .ok (.invokestatic 54, 3) := by decide +kernel
theorem dX11_thing_77 : decode cX11_thing 77 = .ok (.iaload, 1) := by decide +kernel
theorem dX11_thing_78 : decode cX11_thing 78 = .ok (.ireturn, 1) := by decide +kernel
theorem dX11_thing_79 : decode cX11_thing 79 = .ok (.aload_n 0, 1) := by decide +kernel
theorem dX11_thing_80 : decode cX11_thing 80 = .ok (.aload_n 0, 1) := by decide +kernel
theorem dX11_thing_81 : decode cX11_thing 81 = .ok (.getfield 11, 3) := by decide +kernel
theorem dX11_thing_84 : decode cX11_thing 84 = .ok (.iload_n 1, 1) := by decide +kernel
theorem dX11_thing_85 : decode cX11_thing 85 = .ok (.iconst 4, 1) := by decide +kernel
theorem dX11_thing_86 : decode cX11_thing 86 = .ok (.iconst 0, 1) := by decide +kernel
theorem dX11_thing_87 : decode cX11_thing 87 = .ok (.invokestatic 54, 3) := by decide +kernel
theorem dX11_thing_90 : decode cX11_thing 90 = .ok (.iaload, 1) := by decide +kernel
theorem dX11_thing_91 : decode cX11_thing 91 = .ok (.aload_n 0, 1) := by decide +kernel
theorem dX11_thing_92 : decode cX11_thing 92 = .ok (.getfield 11, 3) := by decide +kernel
theorem dX11_thing_95 : decode cX11_thing 95 = .ok (.iload_n 1, 1) := by decide +kernel
theorem dX11_thing_96 : decode cX11_thing 96 = .ok (.iconst 5, 1) := by decide +kernel
theorem dX11_thing_97 : decode cX11_thing 97 = .ok (.iconst 0, 1) := by decide +kernel
theorem dX11_thing_98 : decode cX11_thing 98 = .ok (.invokestatic 54, 3) := by decide +kernel
theorem dX11_thing_101 : decode cX11_thing 101 = .ok (.iaload, 1) := by decide +kernel
theorem dX11_thing_102 : decode cX11_thing 102 = .ok (.invokevirtual 226, 3) := by decide +kernel
theorem dX11_thing_105 : decode cX11_thing 105 = .ok (.ireturn, 1) := by decide +kernel
theorem dX11_thing_106 : decode cX11_thing 106 = .ok (.iconst (-1), 1) := by decide +kernel
theorem dX11_thing_107 : decode cX11_thing 107 = .ok (.ireturn, 1) := by decide +kernel
theorem dX11_name_0 : decode cX11_name 0 = .ok (.aload_n 0, 1) := by decide +kernel
theorem dX11_name_1 : decode cX11_name 1 = .ok (.iload_n 1, 1) := by decide +kernel
theorem dX11_name_2 : decode cX11_name 2 = .ok (.invokevirtual 238, 3) := by decide +kernel
theorem dX11_name_5 : decode cX11_name 5 = .ok (.ifCond .eq 24, 3) := by decide +kernel
theorem dX11_name_8 : decode cX11_name 8 = .ok (.iload_n 2, 1) := by decide +kernel
theorem dX11_name_9 : decode cX11_name 9 = .ok (.iconst (-1), 1) := by decide +kernel
theorem dX11_name_10 : decode cX11_name 10 = .ok (.aload_n 0, 1) := by decide +kernel
theorem dX11_name_11 : decode cX11_name 11 = .ok (.getfield 11, 3) := by decide +kernel
theorem dX11_name_14 : decode cX11_name 14 = .ok (.iload_n 1, 1) := by decide +kernel
theorem dX11_name_15 : decode cX11_name 15 = .ok (.iconst 3, 1) := by decide +kernel
theorem dX11_name_16 : decode cX11_name 16 = .ok (.iconst 0, 1) := by decide +kernel
theorem dX11_name_17 : decode cX11_name 17 = .ok (.invokestatic 54, 3) := by decide +kernel
theorem dX11_name_20 : decode cX11_name 20 = .ok (.iaload, 1) := by decide +kernel
theorem dX11_name_21 : decode cX11_name 21 = .ok (.iconst 1, 1) := by decide +kernel
theorem dX11_name_22 : decode cX11_name 22 = .ok (.isub, 1) := by decide +kernel
theorem dX11_name_23 : decode cX11_name 23 = .ok (.invokestatic 46, 3) := by decide +kernel
theorem dX11_name_26 : decode cX11_name 26 = .ok (.ifCond .ne 5, 3) := by decide +kernel
theorem dX11_name_29 : decode cX11_name 29 = .ok (.iconst (-1), 1) := by decide +kernel
theorem dX11_name_30 : decode cX11_name 30 = .ok (.ireturn, 1) := by decide +kernel
theorem dX11_name_31 : decode cX11_name 31 = .ok (.iload_n 2, 1) := by decide +kernel
theorem dX11_name_32 : decode cX11_name 32 = .ok (.ifCond .ge 17, 3) := by decide +kernel
theorem dX11_name_35 : decode cX11_name 35 = .ok (.aload_n 0, 1) := by decide +kernel
theorem dX11_name_36 : decode cX11_name 36 = .ok (.getfield 11, 3) := by decide +kernel
theorem dX11_name_39 : decode cX11_name 39 = .ok (.iload_n 1, 1) := by decide +kernel
theorem dX11_name_40 : decode cX11_name 40 = .ok (.iconst 3, 1) := by decide +kernel
theorem dX11_name_41 : decode cX11_name 41 = .ok (.iconst 0, 1) := by decide +kernel
theorem dX11_name_42 : decode cX11_name 42 = .ok (.invokestatic 54, 3) := by decide +kernel
theorem dX11_name_45 : decode cX11_name 45 = .ok (.iaload, 1) := by decide +kernel
theorem dX11_name_46 : decode cX11_name 46 = .ok (.goto 15, 3) := by decide +kernel
theorem dX11_name_49 : decode cX11_name 49 = .ok (.aload_n 0, 1) := by decide +kernel
theorem dX11_name_50 : decode cX11_name 50 = .ok (.getfield 11, 3) := by decide +kernel
theorem dX11_name_53 : decode cX11_name 53 = .ok (.iload_n 1, 1) := by decide +kernel
theorem dX11_name_54 : decode cX11_name 54 = .ok (.bipush 7, 2) := by decide +kernel
theorem dX11_name_56 : decode cX11_name 56 = .ok (.iload_n 2, 1) := by decide +kernel
theorem dX11_name_57 : decode cX11_name 57 = .ok (.invokestatic 54, 3) := by decide +kernel
theorem dX11_name_60 : decode cX11_name 60 = .ok (.iaload, 1) := by decide +kernel
theorem dX11_name_61 : decode cX11_name 61 = .ok (.ireturn, 1) := by decide +kernel
theorem dX11_find_0 : decode cX11_find 0 = .ok (.aload_n 0, 1) := by decide +kernel
theorem dX11_find_1 : decode cX11_find 1 = .ok (.getfield 61, 3) := by decide +kernel
theorem dX11_find_4 : decode cX11_find 4 = .ok (.istore_n 1, 1) := by decide +kernel
theorem dX11_find_5 : decode cX11_find 5 = .ok (.aload_n 0, 1) := by decide +kernel
theorem dX11_find_6 : decode cX11_find 6 = .ok (.iconst 0, 1) := by decide +kernel
theorem dX11_find_7 : decode cX11_find 7 = .ok (.putfield 61, 3) := by decide +kernel
theorem dX11_find_10 : decode cX11_find 10 = .ok (.aload_n 0, 1) := by decide +kernel
theorem dX11_find_11 : decode cX11_find 11 = .ok (.aload_n 0, 1) := by decide +kernel
theorem dX11_find_12 : decode cX11_find 12 = .ok (.getfield 24, 3) := by decide +kernel
theorem dX11_find_15 : decode cX11_find 15 = .ok (.iconst 0, 1) := by decide +kernel
theorem dX11_find_16 : decode cX11_find 16 = .ok (.iload_n 1, 1) := by decide +kernel
theorem dX11_find_17 : decode cX11_find 17 = .ok (.invokevirtual 163, 3) := by decide +kernel
theorem dX11_find_20 : decode cX11_find 20 = .ok (.ireturn, 1) := by decide +kernel
theorem dX11_against_0 : decode cX11_against 0 = .ok (.aload_n 0, 1) := by decide +kernel
theorem dX11_against_1 : decode cX11_against 1 = .ok (.getfield 11, 3) := by decide +kernel
theorem dX11_against_4 : decode cX11_against 4 = .ok (.iload_n 1, 1) := by decide +kernel
theorem dX11_against_5 : decode cX11_against 5 = .ok (.iconst 3, 1) := by decide +kernel
theorem dX11_against_6 : decode cX11_against 6 = .ok (.iconst 0, 1) := by decide +kernel
theorem dX11_against_7 : decode cX11_against 7 = .ok (.invokestatic 54, 3) := by decide +kernel
theorem dX11_against_10 : decode cX11_against 10 = .ok (.iaload, 1) := by decide +kernel
theorem dX11_against_11 : decode cX11_against 11 = .ok (.istore 5, 2) := by decide +kernel
theorem dX11_against_13 : decode cX11_against 13 = .ok (.iconst 0, 1) := by decide +kernel
theorem dX11_against_14 : decode cX11_against 14 = .ok (.istore 6, 2) := by decide +kernel
theorem dX11_against_16 : decode cX11_against 16 = .ok (.iload 6, 2) := by decide +kernel
theorem dX11_against_18 : decode cX11_against 18 = .ok (.iload 5, 2) := by decide +kernel
theorem dX11_against_20 : decode cX11_against 20 = .ok (.if_icmp .ge 46, 3) := by decide +kernel
theorem dX11_against_23 : decode cX11_against 23 = .ok (.iload 6, 2) := by decide +kernel
theorem dX11_against_25 : decode cX11_against 25 = .ok (.iload 4, 2) := by decide +kernel
theorem dX11_against_27 : decode cX11_against 27 = .ok (.if_icmp .ge 39, 3) := by decide +kernel
theorem dX11_against_30 : decode cX11_against 30 = .ok (.aload_n 0, 1) := by decide +kernel
theorem dX11_against_31 : decode cX11_against 31 = .ok (.getfield 11, 3) := by decide +kernel
theorem dX11_against_34 : decode cX11_against 34 = .ok (.iload_n 1, 1) := by decide +kernel
theorem dX11_against_35 : decode cX11_against 35 = .ok (.bipush 7, 2) := by decide +kernel
theorem dX11_against_37 : decode cX11_against 37 = .ok (.iload 6, 2) := by decide +kernel
theorem dX11_against_39 : decode cX11_against 39 = .ok (.invokestatic 54, 3) := by decide +kernel
theorem dX11_against_42 : decode cX11_against 42 = .ok (.iaload, 1) := by decide +kernel
theorem dX11_against_43 : decode cX11_against 43 = .ok (.aload_n 2, 1) := by decide +kernel
theorem dX11_against_44 : decode cX11_against 44 = .ok (.iload_n 3, 1) := by decide +kernel
theorem dX11_against_45 : decode cX11_against 45 = .ok (.iload 6, 2) := by decide +kernel
theorem dX11_against_47 : decode cX11_against 47 = .ok (.iadd, 1) := by decide +kernel
theorem dX11_against_48 : decode cX11_against 48 = .ok (.iaload, 1) := by decide +kernel
theorem dX11_against_49 : decode cX11_against 49 = .ok (.isub, 1) := by decide +kernel
theorem dX11_against_50 : decode cX11_against 50 = .ok (.istore 7, 2) := by decide +kernel
theorem dX11_against_52 : decode cX11_against 52 = .ok (.iload 7, 2) := by decide +kernel
theorem dX11_against_54 : decode cX11_against 54 = .ok (.ifCond .eq 6, 3) := by decide +kernel
theorem dX11_against_57 : decode cX11_against 57 = .ok (.iload 7, 2) := by decide +kernel
theorem dX11_against_59 : decode cX11_against 59 = .ok (.ireturn, 1) := by decide +kernel
theorem dX11_against_60 : decode cX11_against 60 = .ok (.iinc 6 1, 3) := by decide +kernel
theorem dX11_against_63 : decode cX11_against 63 = .ok (.goto (-47), 3) := by decide +kernel
theorem dX11_against_66 : decode cX11_against 66 = .ok (.iload 5, 2) := by decide +kernel
theorem dX11_against_68 : decode cX11_against 68 = .ok (.iload 4, 2) := by decide +kernel
theorem dX11_against_70 : decode cX11_against 70 = .ok (.isub, 1) := by decide +kernel
theorem dX11_against_71 : decode cX11_against 71 = .ok (.ireturn, 1) := by decide +kernel
theorem dX11_against__0 : decode cX11_against_ 0 = .ok (.aload_n 0, 1) := by decide +kernel
theorem dX11_against__1 : decode cX11_against_ 1 = .ok (.iload_n 1, 1) := by decide +kernel
theorem dX11_against__2 : decode cX11_against_ 2 = .ok (.aload_n 0, 1) := by decide +kernel
theorem dX11_against__3 : decode cX11_against_ 3 = .ok (.getfield 11, 3) := by decide +kernel
theorem dX11_against__6 : decode cX11_against_ 6 = .ok (.iload_n 2, 1) := by decide +kernel
theorem dX11_against__7 : decode cX11_against_ 7 = .ok (.bipush 7, 2) := by decide +kernel
theorem dX11_against__9 : decode cX11_against_ 9 = .ok (.iconst 0, 1) := by decide +kernel
theorem dX11_against__10 : decode cX11_against_ 10 = .ok (.invokestatic 54, 3) := by decide +kernel
theorem dX11_against__13 : decode cX11_against_ 13 = .ok (.aload_n 0, 1) := by decide +kernel
theorem dX11_against__14 : decode cX11_against_ 14 = .ok (.getfield 11, 3) := by decide +kernel
theorem dX11_against__17 : decode cX11_against_ 17 = .ok (.iload_n 2, 1) := by decide +kernel
theorem dX11_against__18 : decode cX11_against_ 18 = .ok (.iconst 3, 1) := by decide +kernel
theorem dX11_against__19 : decode cX11_against_ 19 = .ok (.iconst 0, 1) := by decide +kernel
theorem dX11_against__20 : decode cX11_against_ 20 = .ok (.invokestatic 54, 3) := by decide +kernel
theorem dX11_against__23 : decode cX11_against_ 23 = .ok (.iaload, 1) := by decide +kernel
theorem dX11_against__24 : decode cX11_against_ 24 = .ok (.invokevirtual 264, 3) := by decide +kernel
theorem dX11_against__27 : decode cX11_against_ 27 = .ok (.ireturn, 1) := by decide +kernel
theorem dX11_from_0 : decode cX11_from 0 = .ok (.aload_n 0, 1) := by decide +kernel
theorem dX11_from_1 : decode cX11_from 1 = .ok (.getfield 61, 3) := by decide +kernel
theorem dX11_from_4 : decode cX11_from 4 = .ok (.istore_n 1, 1) := by decide +kernel
theorem dX11_from_5 : decode cX11_from 5 = .ok (.aload_n 0, 1) := by decide +kernel
theorem dX11_from_6 : decode cX11_from 6 = .ok (.iconst 0, 1) := by decide +kernel
theorem dX11_from_7 : decode cX11_from 7 = .ok (.putfield 61, 3) := by decide +kernel
theorem dX11_from_10 : decode cX11_from 10 = .ok (.bipush (-5), 2) := by decide +kernel
theorem dX11_from_12 : decode cX11_from 12 = .ok (.istore_n 2, 1) := by decide +kernel
theorem dX11_from_13 : decode cX11_from 13 = .ok (.iconst 0, 1) := by decide +kernel
theorem dX11_from_14 : decode cX11_from 14 = .ok (.istore_n 3, 1) := by decide +kernel
theorem dX11_from_15 : decode cX11_from 15 = .ok (.iload_n 3, 1) := by decide +kernel
theorem dX11_from_16 : decode cX11_from 16 = .ok (.aload_n 0, 1) := by decide +kernel
theorem dX11_from_17 : decode cX11_from 17 = .ok (.getfield 11, 3) := by decide +kernel
theorem dX11_from_20 : decode cX11_from 20 = .ok (.iconst 1, 1) := by decide +kernel
theorem dX11_from_21 : decode cX11_from 21 = .ok (.iaload, 1) := by decide +kernel
theorem dX11_from_22 : decode cX11_from 22 = .ok (.if_icmp .ge 46, 3) := by decide +kernel
theorem dX11_from_25 : decode cX11_from 25 = .ok (.aload_n 0, 1) := by decide +kernel
theorem dX11_from_26 : decode cX11_from 26 = .ok (.iload_n 3, 1) := by decide +kernel
theorem dX11_from_27 : decode cX11_from 27 = .ok (.invokevirtual 119, 3) := by decide +kernel
theorem dX11_from_30 : decode cX11_from 30 = .ok (.ifCond .eq 32, 3) := by decide +kernel
theorem dX11_from_33 : decode cX11_from 33 = .ok (.aload_n 0, 1) := by decide +kernel
theorem dX11_from_34 : decode cX11_from 34 = .ok (.iload_n 3, 1) := by decide +kernel
theorem dX11_from_35 : decode cX11_from 35 = .ok (.aload_n 0, 1) := by decide +kernel
theorem dX11_from_36 : decode cX11_from 36 = .ok (.getfield 24, 3) := by decide +kernel
theorem dX11_from_39 : decode cX11_from 39 = .ok (.iconst 0, 1) := by decide +kernel
theorem dX11_from_40 : decode cX11_from 40 = .ok (.iload_n 1, 1) := by decide +kernel
theorem dX11_from_41 : decode cX11_from 41 = .ok (.invokevirtual 264, 3) := by decide +kernel
theorem dX11_from_44 : decode cX11_from 44 = .ok (.ifCond .lt 18, 3) := by decide +kernel
theorem dX11_from_47 : decode cX11_from 47 = .ok (.iload_n 2, 1) := by decide +kernel
theorem dX11_from_48 : decode cX11_from 48 = .ok (.ifCond .lt 12, 3) := by decide +kernel
theorem dX11_from_51 : decode cX11_from 51 = .ok (.aload_n 0, 1) := by decide +kernel
theorem dX11_from_52 : decode cX11_from 52 = .ok (.iload_n 3, 1) := by decide +kernel
theorem dX11_from_53 : decode cX11_from 53 = .ok (.iload_n 2, 1) := by decide +kernel
theorem dX11_from_54 : decode cX11_from 54 = .ok (.invokevirtual 268, 3) := by decide +kernel
theorem dX11_from_57 : decode cX11_from 57 = .ok (.ifCond .ge 5, 3) := by decide +kernel
theorem dX11_from_60 : decode cX11_from 60 = .ok (.iload_n 3, 1) := by decide +kernel
theorem dX11_from_61 : decode cX11_from 61 = .ok (.istore_n 2, 1) := by decide +kernel
theorem dX11_from_62 : decode cX11_from 62 = .ok (.iinc 3 1, 3) := by decide +kernel
theorem dX11_from_65 : decode cX11_from 65 = .ok (.goto (-50), 3) := by decide +kernel
theorem dX11_from_68 : decode cX11_from 68 = .ok (.iload_n 2, 1) := by decide +kernel
theorem dX11_from_69 : decode cX11_from 69 = .ok (.ireturn, 1) := by decide +kernel
theorem dX11_rename_0 : decode cX11_rename 0 = .ok (.aload_n 0, 1) := by decide +kernel
theorem dX11_rename_1 : decode cX11_rename 1 = .ok (.iload_n 1, 1) := by decide +kernel
theorem dX11_rename_2 : decode cX11_rename 2 = .ok (.invokevirtual 238, 3) := by decide +kernel
theorem dX11_rename_5 : decode cX11_rename 5 = .ok (.ifCond .ne 5, 3) := by decide +kernel
theorem dX11_rename_8 : decode cX11_rename 8 = .ok (.iconst (-1), 1) := by decide +kernel
theorem dX11_rename_9 : decode cX11_rename 9 = .ok (.ireturn, 1) := by decide +kernel
theorem dX11_rename_10 : decode cX11_rename 10 = .ok (.aload_n 0, 1) := by decide +kernel
theorem dX11_rename_11 : decode cX11_rename 11 = .ok (.iload_n 1, 1) := by decide +kernel
theorem dX11_rename_12 : decode cX11_rename 12 = .ok (.invokevirtual 119, 3) := by decide +kernel
theorem dX11_rename_15 : decode cX11_rename 15 = .ok (.ifCond .ne 6, 3) := by decide +kernel
theorem dX11_rename_18 : decode cX11_rename 18 = .ok (.bipush (-3), 2) := by decide +kernel
theorem dX11_rename_20 : decode cX11_rename 20 = .ok (.ireturn, 1) := by decide +kernel
theorem dX11_rename_21 : decode cX11_rename 21 = .ok (.aload_n 0, 1) := by decide +kernel
theorem dX11_rename_22 : decode cX11_rename 22 = .ok (.getfield 61, 3) := by decide +kernel
theorem dX11_rename_25 : decode cX11_rename 25 = .ok (.istore_n 2, 1) := by decide +kernel
theorem dX11_rename_26 : decode cX11_rename 26 = .ok (.aload_n 0, 1) := by decide +kernel
theorem dX11_rename_27 : decode cX11_rename 27 = .ok (.iconst 0, 1) := by decide +kernel
theorem dX11_rename_28 : decode cX11_rename 28 = .ok (.putfield 61, 3) := by decide +kernel
theorem dX11_rename_31 : decode cX11_rename 31 = .ok (.aload_n 0, 1) := by decide +kernel
theorem dX11_rename_32 : decode cX11_rename 32 = .ok (.aload_n 0, 1) := by decide +kernel
theorem dX11_rename_33 : decode cX11_rename 33 = .ok (.getfield 24, 3) := by decide +kernel
theorem dX11_rename_36 : decode cX11_rename 36 = .ok (.iconst 0, 1) := by decide +kernel
theorem dX11_rename_37 : decode cX11_rename 37 = .ok (.iload_n 2, 1) := by decide +kernel
theorem dX11_rename_38 : decode cX11_rename 38 = .ok (.invokevirtual 115, 3) := by decide +kernel
theorem dX11_rename_41 : decode cX11_rename 41 = .ok (.aload_n 0, 1) := by decide +kernel
theorem dX11_rename_42 : decode cX11_rename 42 = .ok (.invokevirtual 88, 3) := by decide +kernel
theorem dX11_rename_45 : decode cX11_rename 45 = .ok (.ifCond .eq 10, 3) := by decide +kernel
theorem dX11_rename_48 : decode cX11_rename 48 = .ok (.aload_n 0, 1) := by decide +kernel
theorem dX11_rename_49 : decode cX11_rename 49 = .ok (.invokevirtual 217, 3) := by decide +kernel
theorem dX11_rename_52 : decode cX11_rename 52 = .ok (.ifCond .ne 11, 3) := by decide +kernel
theorem dX11_rename_55 : decode cX11_rename 55 = .ok (.bipush (-100), 2) := by decide +kernel
theorem dX11_rename_57 : decode cX11_rename 57 = .ok (.aload_n 0, 1) := by decide +kernel
theorem dX11_rename_58 : decode cX11_rename 58 = .ok (.getfield 71, 3) := by decide +kernel
theorem dX11_rename_61 : decode cX11_rename 61 = .ok (.isub, 1) := by decide +kernel
theorem dX11_rename_62 : decode cX11_rename 62 = .ok (.ireturn, 1) := by decide +kernel
theorem dX11_rename_63 : decode cX11_rename 63 = .ok (.aload_n 0, 1) := by decide +kernel
theorem dX11_rename_64 : decode cX11_rename 64 = .ok (.aload_n 0, 1) := by decide +kernel
theorem dX11_rename_65 : decode cX11_rename 65 = .ok (.getfield 24, 3) := by decide +kernel
theorem dX11_rename_68 : decode cX11_rename 68 = .ok (.iconst 0, 1) := by decide +kernel
theorem dX11_rename_69 : decode cX11_rename 69 = .ok (.iload_n 2, 1) := by decide +kernel
theorem dX11_rename_70 : decode cX11_rename 70 = .ok (.invokevirtual 163, 3) := by decide +kernel
theorem dX11_rename_73 : decode cX11_rename 73 = .ok (.ifCond .lt 6, 3) := by decide +kernel
theorem dX11_rename_76 : decode cX11_rename 76 = .ok (.bipush (-3), 2) := by decide +kernel
theorem dX11_rename_78 : decode cX11_rename 78 = .ok (.ireturn, 1) := by decide +kernel
theorem dX11_rename_79 : decode cX11_rename 79 = .ok (.aload_n 0, 1) := by decide +kernel
theorem dX11_rename_80 : decode cX11_rename 80 = .ok (.iload_n 1, 1) := by decide +kernel
theorem dX11_rename_81 : decode cX11_rename 81 = .ok (.aload_n 0, 1) := by decide +kernel
theorem dX11_rename_82 : decode cX11_rename 82 = .ok (.getfield 24, 3) := by decide +kernel
theorem dX11_rename_85 : decode cX11_rename 85 = .ok (.iconst 0, 1) := by decide +kernel
theorem dX11_rename_86 : decode cX11_rename 86 = .ok (.iload_n 2, 1) := by decide +kernel
theorem dX11_rename_87 : decode cX11_rename 87 = .ok (.invokevirtual 129, 3) := by decide +kernel
theorem dX11_rename_90 : decode cX11_rename 90 = .ok (.iload_n 2, 1) := by decide +kernel
theorem dX11_rename_91 : decode cX11_rename 91 = .ok (.ireturn, 1) := by decide +kernel
theorem dX11_byName_0 : decode cX11_byName 0 = .ok (.iconst 0, 1) := by decide +kernel
theorem dX11_byName_1 : decode cX11_byName 1 = .ok (.istore_n 2, 1) := by decide +kernel
theorem dX11_byName_2 : decode cX11_byName 2 = .ok (.iload_n 2, 1) := by decide +kernel
theorem dX11_byName_3 : decode cX11_byName 3 = .ok (.aload_n 0, 1) := by decide +kernel
theorem dX11_byName_4 : decode cX11_byName 4 = .ok (.getfield 11, 3) := by decide +kernel
theorem dX11_byName_7 : decode cX11_byName 7 = .ok (.iconst 1, 1) := by decide +kernel
theorem dX11_byName_8 : decode cX11_byName 8 = .ok (.iaload, 1) := by decide +kernel
theorem dX11_byName_9 : decode cX11_byName 9 = .ok (.if_icmp .ge 73, 3) := by decide +kernel
theorem dX11_byName_12 : decode cX11_byName 12 = .ok (.iconst 0, 1) := by decide +kernel
theorem dX11_byName_13 : decode cX11_byName 13 = .ok (.istore_n 3, 1) := by decide +kernel
theorem dX11_byName_14 : decode cX11_byName 14 = .ok (.iconst 0, 1) := by decide +kernel
theorem dX11_byName_15 : decode cX11_byName 15 = .ok (.istore 4, 2) := by decide +kernel
theorem dX11_byName_17 : decode cX11_byName 17 = .ok (.iload 4, 2) := by decide +kernel
theorem dX11_byName_19 : decode cX11_byName 19 = .ok (.aload_n 0, 1) := by decide +kernel
theorem dX11_byName_20 : decode cX11_byName 20 = .ok (.getfield 11, 3) := by decide +kernel
theorem dX11_byName_23 : decode cX11_byName 23 = .ok (.iconst 1, 1) := by decide +kernel
theorem dX11_byName_24 : decode cX11_byName 24 = .ok (.iaload, 1) := by decide +kernel
theorem dX11_byName_25 : decode cX11_byName 25 = .ok (.if_icmp .ge 36, 3) := by decide +kernel
theorem dX11_byName_28 : decode cX11_byName 28 = .ok (.iload_n 3, 1) := by decide +kernel
theorem dX11_byName_29 : decode cX11_byName 29 = .ok (.aload_n 0, 1) := by decide +kernel
theorem dX11_byName_30 : decode cX11_byName 30 = .ok (.iload 4, 2) := by decide +kernel
theorem dX11_byName_32 : decode cX11_byName 32 = .ok (.invokevirtual 119, 3) := by decide +kernel
theorem dX11_byName_35 : decode cX11_byName 35 = .ok (.ifCond .eq 17, 3) := by decide +kernel
theorem dX11_byName_38 : decode cX11_byName 38 = .ok (.aload_n 0, 1) := by decide +kernel
theorem dX11_byName_39 : decode cX11_byName 39 = .ok (.iload 4, 2) := by decide +kernel
theorem dX11_byName_41 : decode cX11_byName 41 = .ok (.iload_n 2, 1) := by decide +kernel
theorem dX11_byName_42 : decode cX11_byName 42 = .ok (.invokevirtual 268, 3) := by decide +kernel
theorem dX11_byName_45 : decode cX11_byName 45 = .ok (.ifCond .ge 7, 3) := by decide +kernel
theorem dX11_byName_48 : decode cX11_byName 48 = .ok (.iconst 1, 1) := by decide +kernel
theorem dX11_byName_49 : decode cX11_byName 49 = .ok (.goto 4, 3) := by decide +kernel
theorem dX11_byName_52 : decode cX11_byName 52 = .ok (.iconst 0, 1) := by decide +kernel
theorem dX11_byName_53 : decode cX11_byName 53 = .ok (.iadd, 1) := by decide +kernel
theorem dX11_byName_54 : decode cX11_byName 54 = .ok (.istore_n 3, 1) := by decide +kernel
theorem dX11_byName_55 : decode cX11_byName 55 = .ok (.iinc 4 1, 3) := by decide +kernel
theorem dX11_byName_58 : decode cX11_byName 58 = .ok (.goto (-41), 3) := by decide +kernel
theorem dX11_byName_61 : decode cX11_byName 61 = .ok (.aload_n 0, 1) := by decide +kernel
theorem dX11_byName_62 : decode cX11_byName 62 = .ok (.iload_n 2, 1) := by decide +kernel
theorem dX11_byName_63 : decode cX11_byName 63 = .ok (.invokevirtual 119, 3) := by decide +kernel
theorem dX11_byName_66 : decode cX11_byName 66 = .ok (.ifCond .eq 10, 3) := by decide +kernel
theorem dX11_byName_69 : decode cX11_byName 69 = .ok (.iload_n 3, 1) := by decide +kernel
theorem dX11_byName_70 : decode cX11_byName 70 = .ok (.iload_n 1, 1) := by decide +kernel
theorem dX11_byName_71 : decode cX11_byName 71 = .ok (.if_icmp .ne 5, 3) := by decide +kernel
theorem dX11_byName_74 : decode cX11_byName 74 = .ok (.iload_n 2, 1) := by decide +kernel
theorem dX11_byName_75 : decode cX11_byName 75 = .ok (.ireturn, 1) := by decide +kernel
theorem dX11_byName_76 : decode cX11_byName 76 = .ok (.iinc 2 1, 3) := by decide +kernel
theorem dX11_byName_79 : decode cX11_byName 79 = .ok (.goto (-77), 3) := by decide +kernel
theorem dX11_byName_82 : decode cX11_byName 82 = .ok (.iconst (-1), 1) := by decide +kernel
theorem dX11_byName_83 : decode cX11_byName 83 = .ok (.ireturn, 1) := by decide +kernel
theorem dX11_plansOf_0 : decode cX11_plansOf 0 = .ok (.aload_n 0, 1) := by decide +kernel
theorem dX11_plansOf_1 : decode cX11_plansOf 1 = .ok (.iload_n 1, 1) := by decide +kernel
theorem dX11_plansOf_2 : decode cX11_plansOf 2 = .ok (.aload_n 0, 1) := by decide +kernel
theorem dX11_plansOf_3 : decode cX11_plansOf 3 = .ok (.getfield 11, 3) := by decide +kernel
theorem dX11_plansOf_6 : decode cX11_plansOf 6 = .ok (.bipush 6, 2) := by decide +kernel
theorem dX11_plansOf_8 : decode cX11_plansOf 8 = .ok (.iaload, 1) := by decide +kernel
theorem dX11_plansOf_9 : decode cX11_plansOf 9 = .ok (.iconst 1, 1) := by decide +kernel
theorem dX11_plansOf_10 : decode cX11_plansOf 10 = .ok (.iadd, 1) := by decide +kernel
theorem dX11_plansOf_11 : decode cX11_plansOf 11 = .ok (.invokevirtual 261, 3) := by decide +kernel
theorem dX11_plansOf_14 : decode cX11_plansOf 14 = .ok (.istore_n 2, 1) := by decide +kernel
theorem dX11_plansOf_15 : decode cX11_plansOf 15 = .ok (.iload_n 2, 1) := by decide +kernel
theorem dX11_plansOf_16 : decode cX11_plansOf 16 = .ok (.ifCond .lt 54, 3) := by decide +kernel
theorem dX11_plansOf_19 : decode cX11_plansOf 19 = .ok (.iload_n 2, 1) := by decide +kernel
theorem dX11_plansOf_20 : decode cX11_plansOf 20 = .ok (.bipush 100, 2) := by decide +kernel
theorem dX11_plansOf_22 : decode cX11_plansOf 22 = .ok (.if_icmp .lt 14, 3) := by decide +kernel
theorem dX11_plansOf_25 : decode cX11_plansOf 25 = .ok (.aload_n 0, 1) := by decide +kernel
theorem dX11_plansOf_26 : decode cX11_plansOf 26 = .ok (.iload_n 2, 1) := by decide +kernel
theorem dX11_plansOf_27 : decode cX11_plansOf 27 = .ok (.bipush 100, 2) := by decide +kernel
theorem dX11_plansOf_29 : decode cX11_plansOf 29 = .ok (.isub, 1) := by decide +kernel
theorem dX11_plansOf_30 : decode cX11_plansOf 30 = .ok (.invokevirtual 270, 3) := by decide +kernel
theorem dX11_plansOf_33 : decode cX11_plansOf 33 = .ok (.goto 23, 3) := by decide +kernel
theorem dX11_plansOf_36 : decode cX11_plansOf 36 = .ok (.aload_n 0, 1) := by decide +kernel
theorem dX11_plansOf_37 : decode cX11_plansOf 37 = .ok (.getfield 30, 3) := by decide +kernel
theorem dX11_plansOf_40 : decode cX11_plansOf 40 = .ok (.aload_n 0, 1) := by decide +kernel
theorem dX11_plansOf_41 : decode cX11_plansOf 41 = .ok (.getfield 273, 3) := by decide +kernel
theorem dX11_plansOf_44 : decode cX11_plansOf 44 = .ok (.iload_n 2, 1) := by decide +kernel
theorem dX11_plansOf_45 : decode cX11_plansOf 45 = .ok (.iastore, 1) := by decide +kernel
theorem dX11_plansOf_46 : decode cX11_plansOf 46 = .ok (.aload_n 0, 1) := by decide +kernel
theorem dX11_plansOf_47 : decode cX11_plansOf 47 = .ok (.dup, 1) := by decide +kernel
theorem dX11_plansOf_48 : decode cX11_plansOf 48 = .ok (.getfield 273, 3) := by decide +kernel
theorem dX11_plansOf_51 : decode cX11_plansOf 51 = .ok (.iconst 1, 1) := by decide +kernel
theorem dX11_plansOf_52 : decode cX11_plansOf 52 = .ok (.iadd, 1) := by decide +kernel
theorem dX11_plansOf_53 : decode cX11_plansOf 53 = .ok (.putfield 273, 3) := by decide +kernel
theorem dX11_plansOf_56 : decode cX11_plansOf 56 = .ok (.aload_n 0, 1) := by decide +kernel
theorem dX11_plansOf_57 : decode cX11_plansOf 57 = .ok (.iload_n 1, 1) := by decide +kernel
theorem dX11_plansOf_58 : decode cX11_plansOf 58 = .ok (.aload_n 0, 1) := by decide +kernel
theorem dX11_plansOf_59 : decode cX11_plansOf 59 = .ok (.iload_n 2, 1) := by decide +kernel
theorem dX11_plansOf_60 : decode cX11_plansOf 60 = .ok (.invokevirtual 258, 3) := by decide +kernel
theorem dX11_plansOf_63 : decode cX11_plansOf 63 = .ok (.invokevirtual 261, 3) := by decide +kernel
theorem dX11_plansOf_66 : decode cX11_plansOf 66 = .ok (.istore_n 2, 1) := by decide +kernel
theorem dX11_plansOf_67 : decode cX11_plansOf 67 = .ok (.goto (-52), 3) := by decide +kernel
theorem dX11_plansOf_70 : decode cX11_plansOf 70 = .ok (.return_, 1) := by decide +kernel
theorem dX11_plan_0 : decode cX11_plan 0 = .ok (.aload_n 0, 1) := by decide +kernel
theorem dX11_plan_1 : decode cX11_plan 1 = .ok (.iload_n 1, 1) := by decide +kernel
theorem dX11_plan_2 : decode cX11_plan 2 = .ok (.invokevirtual 50, 3) := by decide +kernel
theorem dX11_plan_5 : decode cX11_plan 5 = .ok (.ifCond .ne 5, 3) := by decide +kernel
theorem dX11_plan_8 : decode cX11_plan 8 = .ok (.iconst (-1), 1) := by decide +kernel
theorem dX11_plan_9 : decode cX11_plan 9 = .ok (.ireturn, 1) := by decide +kernel
theorem dX11_plan_10 : decode cX11_plan 10 = .ok (.aload_n 0, 1) := by decide +kernel
theorem dX11_plan_11 : decode cX11_plan 11 = .ok (.iconst 0, 1) := by decide +kernel
theorem dX11_plan_12 : decode cX11_plan 12 = .ok (.putfield 273, 3) := by decide +kernel
theorem dX11_plan_15 : decode cX11_plan 15 = .ok (.aload_n 0, 1) := by decide +kernel
theorem dX11_plan_16 : decode cX11_plan 16 = .ok (.iload_n 1, 1) := by decide +kernel
theorem dX11_plan_17 : decode cX11_plan 17 = .ok (.invokevirtual 270, 3) := by decide +kernel
theorem dX11_plan_20 : decode cX11_plan 20 = .ok (.iload_n 2, 1) := by decide +kernel
theorem dX11_plan_21 : decode cX11_plan 21 = .ok (.iconst (-1), 1) := by decide +kernel
theorem dX11_plan_22 : decode cX11_plan 22 = .ok (.aload_n 0, 1) := by decide +kernel
theorem dX11_plan_23 : decode cX11_plan 23 = .ok (.getfield 273, 3) := by decide +kernel
theorem dX11_plan_26 : decode cX11_plan 26 = .ok (.iconst 1, 1) := by decide +kernel
theorem dX11_plan_27 : decode cX11_plan 27 = .ok (.isub, 1) := by decide +kernel
theorem dX11_plan_28 : decode cX11_plan 28 = .ok (.invokestatic 46, 3) := by decide +kernel
theorem dX11_plan_31 : decode cX11_plan 31 = .ok (.ifCond .ne 7, 3) := by decide +kernel
theorem dX11_plan_34 : decode cX11_plan 34 = .ok (.iconst (-1), 1) := by decide +kernel
theorem dX11_plan_35 : decode cX11_plan 35 = .ok (.goto 20, 3) := by decide +kernel
theorem dX11_plan_38 : decode cX11_plan 38 = .ok (.iload_n 2, 1) := by decide +kernel
theorem dX11_plan_39 : decode cX11_plan 39 = .ok (.ifCond .ge 10, 3) := by decide +kernel
theorem dX11_plan_42 : decode cX11_plan 42 = .ok (.aload_n 0, 1) := by decide +kernel
theorem dX11_plan_43 : decode cX11_plan 43 = .ok (.getfield 273, 3) := by decide +kernel
theorem dX11_plan_46 : decode cX11_plan 46 = .ok (.goto 9, 3) := by decide +kernel
theorem dX11_plan_49 : decode cX11_plan 49 = .ok (.aload_n 0, 1) := by decide +kernel
theorem dX11_plan_50 : decode cX11_plan 50 = .ok (.getfield 30, 3) := by decide +kernel
theorem dX11_plan_53 : decode cX11_plan 53 = .ok (.iload_n 2, 1) := by decide +kernel
theorem dX11_plan_54 : decode cX11_plan 54 = .ok (.iaload, 1) := by decide +kernel
theorem dX11_plan_55 : decode cX11_plan 55 = .ok (.ireturn, 1) := by decide +kernel
theorem dX11_held_0 : decode cX11_held 0 = .ok (.iconst 0, 1) := by decide +kernel
theorem dX11_held_1 : decode cX11_held 1 = .ok (.istore_n 1, 1) := by decide +kernel
theorem dX11_held_2 : decode cX11_held 2 = .ok (.iconst 0, 1) := by decide +kernel
theorem dX11_held_3 : decode cX11_held 3 = .ok (.istore_n 2, 1) := by decide +kernel
theorem dX11_held_4 : decode cX11_held 4 = .ok (.iload_n 2, 1) := by decide +kernel
theorem dX11_held_5 : decode cX11_held 5 = .ok (.aload_n 0, 1) := by decide +kernel
theorem dX11_held_6 : decode cX11_held 6 = .ok (.getfield 11, 3) := by decide +kernel
theorem dX11_held_9 : decode cX11_held 9 = .ok (.iconst 1, 1) := by decide +kernel
theorem dX11_held_10 : decode cX11_held 10 = .ok (.iaload, 1) := by decide +kernel
theorem dX11_held_11 : decode cX11_held 11 = .ok (.if_icmp .ge 25, 3) := by decide +kernel
theorem dX11_held_14 : decode cX11_held 14 = .ok (.iload_n 1, 1) := by decide +kernel
theorem dX11_held_15 : decode cX11_held 15 = .ok (.aload_n 0, 1) := by decide +kernel
theorem dX11_held_16 : decode cX11_held 16 = .ok (.iload_n 2, 1) := by decide +kernel
theorem dX11_held_17 : decode cX11_held 17 = .ok (.invokevirtual 119, 3) := by decide +kernel
theorem dX11_held_20 : decode cX11_held 20 = .ok (.ifCond .eq 7, 3) := by decide +kernel
theorem dX11_held_23 : decode cX11_held 23 = .ok (.iconst 1, 1) := by decide +kernel
theorem dX11_held_24 : decode cX11_held 24 = .ok (.goto 4, 3) := by decide +kernel
theorem dX11_held_27 : decode cX11_held 27 = .ok (.iconst 0, 1) := by decide +kernel
theorem dX11_held_28 : decode cX11_held 28 = .ok (.iadd, 1) := by decide +kernel
theorem dX11_held_29 : decode cX11_held 29 = .ok (.istore_n 1, 1) := by decide +kernel
theorem dX11_held_30 : decode cX11_held 30 = .ok (.iinc 2 1, 3) := by decide +kernel
theorem dX11_held_33 : decode cX11_held 33 = .ok (.goto (-29), 3) := by decide +kernel
theorem dX11_held_36 : decode cX11_held 36 = .ok (.iload_n 1, 1) := by decide +kernel
theorem dX11_held_37 : decode cX11_held 37 = .ok (.ireturn, 1) := by decide +kernel
theorem dX11_wouldNow_0 : decode cX11_wouldNow 0 = .ok (.iload_n 1, 1) := by decide +kernel
theorem dX11_wouldNow_1 : decode cX11_wouldNow 1 = .ok (.tableswitch 114 0 4 #[35, 42, 64, 86, 100], 35) := by decide +kernel
theorem dX11_wouldNow_36 : decode cX11_wouldNow 36 = .ok (.aload_n 0, 1) := by decide +kernel
theorem dX11_wouldNow_37 : decode cX11_wouldNow 37 = .ok (.getfield 11, 3) := by decide +kernel
theorem dX11_wouldNow_40 : decode cX11_wouldNow 40 = .ok (.iconst 5, 1) := by decide +kernel
theorem dX11_wouldNow_41 : decode cX11_wouldNow 41 = .ok (.iaload, 1) := by decide +kernel
theorem dX11_wouldNow_42 : decode cX11_wouldNow 42 = .ok (.ireturn, 1) := by decide +kernel
theorem dX11_wouldNow_43 : decode cX11_wouldNow 43 = .ok (.aload_n 0, 1) := by decide +kernel
theorem dX11_wouldNow_44 : decode cX11_wouldNow 44 = .ok (.getfield 11, 3) := by decide +kernel
theorem dX11_wouldNow_47 : decode cX11_wouldNow 47 = .ok (.iconst 5, 1) := by decide +kernel
theorem dX11_wouldNow_48 : decode cX11_wouldNow 48 = .ok (.iaload, 1) := by decide +kernel
theorem dX11_wouldNow_49 : decode cX11_wouldNow 49 = .ok (.ifCond .ne 7, 3) := by decide +kernel
theorem dX11_wouldNow_52 : decode cX11_wouldNow 52 = .ok (.iconst 0, 1) := by decide +kernel
theorem dX11_wouldNow_53 : decode cX11_wouldNow 53 = .ok (.goto 11, 3) := by decide +kernel
theorem dX11_wouldNow_56 : decode cX11_wouldNow 56 = .ok (.aload_n 0, 1) := by decide +kernel
theorem dX11_wouldNow_57 : decode cX11_wouldNow 57 = .ok (.getfield 11, 3) := by decide +kernel
theorem dX11_wouldNow_60 : decode cX11_wouldNow 60 = .ok (.sipush 2688, 3) := by decide +kernel
theorem dX11_wouldNow_63 : decode cX11_wouldNow 63 = .ok (.iaload, 1) := by decide +kernel
theorem dX11_wouldNow_64 : decode cX11_wouldNow 64 = .ok (.ireturn, 1) := by decide +kernel
theorem dX11_wouldNow_65 : decode cX11_wouldNow 65 = .ok (.aload_n 0, 1) := by decide +kernel
theorem dX11_wouldNow_66 : decode cX11_wouldNow 66 = .ok (.getfield 11, 3) := by decide +kernel
theorem dX11_wouldNow_69 : decode cX11_wouldNow 69 = .ok (.iconst 5, 1) := by decide +kernel
theorem dX11_wouldNow_70 : decode cX11_wouldNow 70 = .ok (.iaload, 1) := by decide +kernel
theorem dX11_wouldNow_71 : decode cX11_wouldNow 71 = .ok (.ifCond .ne 7, 3) := by decide +kernel
theorem dX11_wouldNow_74 : decode cX11_wouldNow 74 = .ok (.iconst (-1), 1) := by decide +kernel
theorem dX11_wouldNow_75 : decode cX11_wouldNow 75 = .ok (.goto 11, 3) := by decide +kernel
theorem dX11_wouldNow_78 : decode cX11_wouldNow 78 = .ok (.aload_n 0, 1) := by decide +kernel
theorem dX11_wouldNow_79 : decode cX11_wouldNow 79 = .ok (.getfield 11, 3) := by decide +kernel
theorem dX11_wouldNow_82 : decode cX11_wouldNow 82 = .ok (.sipush 2689, 3) := by decide +kernel
theorem dX11_wouldNow_85 : decode cX11_wouldNow 85 = .ok (.iaload, 1) := by decide +kernel
theorem dX11_wouldNow_86 : decode cX11_wouldNow 86 = .ok (.ireturn, 1) := by decide +kernel
theorem dX11_wouldNow_87 : decode cX11_wouldNow 87 = .ok (.aload_n 0, 1) := by decide +kernel
theorem dX11_wouldNow_88 : decode cX11_wouldNow 88 = .ok (.getfield 11, 3) := by decide +kernel
theorem dX11_wouldNow_91 : decode cX11_wouldNow 91 = .ok (.iconst 2, 1) := by decide +kernel
theorem dX11_wouldNow_92 : decode cX11_wouldNow 92 = .ok (.iaload, 1) := by decide +kernel
theorem dX11_wouldNow_93 : decode cX11_wouldNow 93 = .ok (.aload_n 0, 1) := by decide +kernel
theorem dX11_wouldNow_94 : decode cX11_wouldNow 94 = .ok (.getfield 18, 3) := by decide +kernel
theorem dX11_wouldNow_97 : decode cX11_wouldNow 97 = .ok (.iconst 2, 1) := by decide +kernel
theorem dX11_wouldNow_98 : decode cX11_wouldNow 98 = .ok (.iaload, 1) := by decide +kernel
theorem dX11_wouldNow_99 : decode cX11_wouldNow 99 = .ok (.isub, 1) := by decide +kernel
theorem dX11_wouldNow_100 : decode cX11_wouldNow 100 = .ok (.ireturn, 1) := by decide +kernel
theorem dX11_wouldNow_101 : decode cX11_wouldNow 101 = .ok (.aload_n 0, 1) := by decide +kernel
theorem dX11_wouldNow_102 : decode cX11_wouldNow 102 = .ok (.getfield 11, 3) := by decide +kernel
theorem dX11_wouldNow_105 : decode cX11_wouldNow 105 = .ok (.iconst 1, 1) := by decide +kernel
theorem dX11_wouldNow_106 : decode cX11_wouldNow 106 = .ok (.iaload, 1) := by decide +kernel
theorem dX11_wouldNow_107 : decode cX11_wouldNow 107 = .ok (.aload_n 0, 1) := by decide +kernel
theorem dX11_wouldNow_108 : decode cX11_wouldNow 108 = .ok (.getfield 18, 3) := by decide +kernel
theorem dX11_wouldNow_111 : decode cX11_wouldNow 111 = .ok (.iconst 1, 1) := by decide +kernel
theorem dX11_wouldNow_112 : decode cX11_wouldNow 112 = .ok (.iaload, 1) := by decide +kernel
theorem dX11_wouldNow_113 : decode cX11_wouldNow 113 = .ok (.isub, 1) := by decide +kernel
theorem dX11_wouldNow_114 : decode cX11_wouldNow 114 = .ok (.ireturn, 1) := by decide +kernel
theorem dX11_wouldNow_115 : decode cX11_wouldNow 115 = .ok (.aload_n 0, 1) := by decide +kernel
theorem dX11_wouldNow_116 : decode cX11_wouldNow 116 = .ok (.invokevirtual 276, 3) := by decide +kernel
theorem dX11_wouldNow_119 : decode cX11_wouldNow 119 = .ok (.ireturn, 1) := by decide +kernel
theorem dX11_would_0 : decode cX11_would 0 = .ok (.aload_n 0, 1) := by decide +kernel
theorem dX11_would_1 : decode cX11_would 1 = .ok (.iload_n 1, 1) := by decide +kernel
theorem dX11_would_2 : decode cX11_would 2 = .ok (.invokevirtual 50, 3) := by decide +kernel
theorem dX11_would_5 : decode cX11_would 5 = .ok (.ifCond .eq 12, 3) := by decide +kernel
theorem dX11_would_8 : decode cX11_would 8 = .ok (.iload_n 2, 1) := by decide +kernel
theorem dX11_would_9 : decode cX11_would 9 = .ok (.iconst 0, 1) := by decide +kernel
theorem dX11_would_10 : decode cX11_would 10 = .ok (.iconst 5, 1) := by decide +kernel
theorem dX11_would_11 : decode cX11_would 11 = .ok (.invokestatic 46, 3) := by decide +kernel
theorem dX11_would_14 : decode cX11_would 14 = .ok (.ifCond .ne 5, 3) := by decide +kernel
theorem dX11_would_17 : decode cX11_would 17 = .ok (.iconst (-1), 1) := by decide +kernel
theorem dX11_would_18 : decode cX11_would 18 = .ok (.ireturn, 1) := by decide +kernel
theorem dX11_would_19 : decode cX11_would 19 = .ok (.aload_n 0, 1) := by decide +kernel
theorem dX11_would_20 : decode cX11_would 20 = .ok (.iload_n 1, 1) := by decide +kernel
theorem dX11_would_21 : decode cX11_would 21 = .ok (.invokevirtual 146, 3) := by decide +kernel
theorem dX11_would_24 : decode cX11_would 24 = .ok (.ifCond .ne 6, 3) := by decide +kernel
theorem dX11_would_27 : decode cX11_would 27 = .ok (.bipush (-3), 2) := by decide +kernel
theorem dX11_would_29 : decode cX11_would 29 = .ok (.ireturn, 1) := by decide +kernel
theorem dX11_would_30 : decode cX11_would 30 = .ok (.aload_n 0, 1) := by decide +kernel
theorem dX11_would_31 : decode cX11_would 31 = .ok (.getfield 11, 3) := by decide +kernel
theorem dX11_would_34 : decode cX11_would 34 = .ok (.aload_n 0, 1) := by decide +kernel
theorem dX11_would_35 : decode cX11_would 35 = .ok (.getfield 18, 3) := by decide +kernel
theorem dX11_would_38 : decode cX11_would 38 = .ok (.invokestatic 279, 3) := by decide +kernel
theorem dX11_would_41 : decode cX11_would 41 = .ok (.aload_n 0, 1) := by decide +kernel
theorem dX11_would_42 : decode cX11_would 42 = .ok (.iload_n 1, 1) := by decide +kernel
theorem dX11_would_43 : decode cX11_would 43 = .ok (.invokevirtual 283, 3) := by decide +kernel
theorem dX11_would_46 : decode cX11_would 46 = .ok (.pop, 1) := by decide +kernel
theorem dX11_would_47 : decode cX11_would 47 = .ok (.aload_n 0, 1) := by decide +kernel
theorem dX11_would_48 : decode cX11_would 48 = .ok (.iload_n 2, 1) := by decide +kernel
theorem dX11_would_49 : decode cX11_would 49 = .ok (.invokevirtual 286, 3) := by decide +kernel
theorem dX11_would_52 : decode cX11_would 52 = .ok (.istore_n 3, 1) := by decide +kernel
theorem dX11_would_53 : decode cX11_would 53 = .ok (.aload_n 0, 1) := by decide +kernel
theorem dX11_would_54 : decode cX11_would 54 = .ok (.getfield 18, 3) := by decide +kernel
theorem dX11_would_57 : decode cX11_would 57 = .ok (.aload_n 0, 1) := by decide +kernel
theorem dX11_would_58 : decode cX11_would 58 = .ok (.getfield 11, 3) := by decide +kernel
theorem dX11_would_61 : decode cX11_would 61 = .ok (.invokestatic 279, 3) := by decide +kernel
theorem dX11_would_64 : decode cX11_would 64 = .ok (.iload_n 3, 1) := by decide +kernel
theorem dX11_would_65 : decode cX11_would 65 = .ok (.ireturn, 1) := by decide +kernel
theorem dX11_trialNow_0 : decode cX11_trialNow 0 = .ok (.iload_n 2, 1) := by decide +kernel
theorem dX11_trialNow_1 : decode cX11_trialNow 1 = .ok (.tableswitch 105 0 4 #[35, 41, 61, 81, 93], 35) := by decide +kernel
theorem dX11_trialNow_36 : decode cX11_trialNow 36 = .ok (.aload_n 0, 1) := by decide +kernel
theorem dX11_trialNow_37 : decode cX11_trialNow 37 = .ok (.iload_n 1, 1) := by decide +kernel
theorem dX11_trialNow_38 : decode cX11_trialNow 38 = .ok (.invokevirtual 232, 3) := by decide +kernel
theorem dX11_trialNow_41 : decode cX11_trialNow 41 = .ok (.ireturn, 1) := by decide +kernel
theorem dX11_trialNow_42 : decode cX11_trialNow 42 = .ok (.aload_n 0, 1) := by decide +kernel
theorem dX11_trialNow_43 : decode cX11_trialNow 43 = .ok (.iload_n 1, 1) := by decide +kernel
theorem dX11_trialNow_44 : decode cX11_trialNow 44 = .ok (.invokevirtual 232, 3) := by decide +kernel
theorem dX11_trialNow_47 : decode cX11_trialNow 47 = .ok (.ifCond .ne 7, 3) := by decide +kernel
theorem dX11_trialNow_50 : decode cX11_trialNow 50 = .ok (.iconst 0, 1) := by decide +kernel
theorem dX11_trialNow_51 : decode cX11_trialNow 51 = .ok (.goto 10, 3) := by decide +kernel
theorem dX11_trialNow_54 : decode cX11_trialNow 54 = .ok (.aload_n 0, 1) := by decide +kernel
theorem dX11_trialNow_55 : decode cX11_trialNow 55 = .ok (.iload_n 1, 1) := by decide +kernel
theorem dX11_trialNow_56 : decode cX11_trialNow 56 = .ok (.iconst 0, 1) := by decide +kernel
theorem dX11_trialNow_57 : decode cX11_trialNow 57 = .ok (.iconst 0, 1) := by decide +kernel
theorem dX11_trialNow_58 : decode cX11_trialNow 58 = .ok (.invokevirtual 235, 3) := by decide +kernel
theorem dX11_trialNow_61 : decode cX11_trialNow 61 = .ok (.ireturn, 1) := by decide +kernel
theorem dX11_trialNow_62 : decode cX11_trialNow 62 = .ok (.aload_n 0, 1) := by decide +kernel
theorem dX11_trialNow_63 : decode cX11_trialNow 63 = .ok (.iload_n 1, 1) := by decide +kernel
theorem dX11_trialNow_64 : decode cX11_trialNow 64 = .ok (.invokevirtual 232, 3) := by decide +kernel
theorem dX11_trialNow_67 : decode cX11_trialNow 67 = .ok (.ifCond .ne 7, 3) := by decide +kernel
theorem dX11_trialNow_70 : decode cX11_trialNow 70 = .ok (.iconst (-1), 1) := by decide +kernel
theorem dX11_trialNow_71 : decode cX11_trialNow 71 = .ok (.goto 10, 3) := by decide +kernel
theorem dX11_trialNow_74 : decode cX11_trialNow 74 = .ok (.aload_n 0, 1) := by decide +kernel
theorem dX11_trialNow_75 : decode cX11_trialNow 75 = .ok (.iload_n 1, 1) := by decide +kernel
theorem dX11_trialNow_76 : decode cX11_trialNow 76 = .ok (.iconst 0, 1) := by decide +kernel
theorem dX11_trialNow_77 : decode cX11_trialNow 77 = .ok (.iconst 1, 1) := by decide +kernel
theorem dX11_trialNow_78 : decode cX11_trialNow 78 = .ok (.invokevirtual 235, 3) := by decide +kernel
theorem dX11_trialNow_81 : decode cX11_trialNow 81 = .ok (.ireturn, 1) := by decide +kernel
theorem dX11_trialNow_82 : decode cX11_trialNow 82 = .ok (.aload_n 0, 1) := by decide +kernel
theorem dX11_trialNow_83 : decode cX11_trialNow 83 = .ok (.getfield 11, 3) := by decide +kernel
theorem dX11_trialNow_86 : decode cX11_trialNow 86 = .ok (.iload_n 1, 1) := by decide +kernel
theorem dX11_trialNow_87 : decode cX11_trialNow 87 = .ok (.iconst 2, 1) := by decide +kernel
theorem dX11_trialNow_88 : decode cX11_trialNow 88 = .ok (.iconst 0, 1) := by decide +kernel
theorem dX11_trialNow_89 : decode cX11_trialNow 89 = .ok (.invokestatic 58, 3) := by decide +kernel
theorem dX11_trialNow_92 : decode cX11_trialNow 92 = .ok (.iaload, 1) := by decide +kernel
theorem dX11_trialNow_93 : decode cX11_trialNow 93 = .ok (.ireturn, 1) := by decide +kernel
theorem dX11_trialNow_94 : decode cX11_trialNow 94 = .ok (.aload_n 0, 1) := by decide +kernel
theorem dX11_trialNow_95 : decode cX11_trialNow 95 = .ok (.getfield 11, 3) := by decide +kernel
theorem dX11_trialNow_98 : decode cX11_trialNow 98 = .ok (.iload_n 1, 1) := by decide +kernel
theorem dX11_trialNow_99 : decode cX11_trialNow 99 = .ok (.iconst 4, 1) := by decide +kernel
theorem dX11_trialNow_100 : decode cX11_trialNow 100 = .ok (.iconst 0, 1) := by decide +kernel
theorem dX11_trialNow_101 : decode cX11_trialNow 101 = .ok (.invokestatic 58, 3) := by decide +kernel
theorem dX11_trialNow_104 : decode cX11_trialNow 104 = .ok (.iaload, 1) := by decide +kernel
theorem dX11_trialNow_105 : decode cX11_trialNow 105 = .ok (.ireturn, 1) := by decide +kernel
theorem dX11_trialNow_106 : decode cX11_trialNow 106 = .ok (.aload_n 0, 1) := by decide +kernel
theorem dX11_trialNow_107 : decode cX11_trialNow 107 = .ok (.getfield 11, 3) := by decide +kernel
theorem dX11_trialNow_110 : decode cX11_trialNow 110 = .ok (.iconst 2, 1) := by decide +kernel
theorem dX11_trialNow_111 : decode cX11_trialNow 111 = .ok (.iaload, 1) := by decide +kernel
theorem dX11_trialNow_112 : decode cX11_trialNow 112 = .ok (.ireturn, 1) := by decide +kernel
theorem dX11_trial_0 : decode cX11_trial 0 = .ok (.aload_n 0, 1) := by decide +kernel
theorem dX11_trial_1 : decode cX11_trial 1 = .ok (.iload_n 1, 1) := by decide +kernel
theorem dX11_trial_2 : decode cX11_trial 2 = .ok (.invokevirtual 180, 3) := by decide +kernel
theorem dX11_trial_5 : decode cX11_trial 5 = .ok (.ifCond .eq 12, 3) := by decide +kernel
theorem dX11_trial_8 : decode cX11_trial 8 = .ok (.iload_n 3, 1) := by decide +kernel
theorem dX11_trial_9 : decode cX11_trial 9 = .ok (.iconst 0, 1) := by decide +kernel
theorem dX11_trial_10 : decode cX11_trial 10 = .ok (.iconst 5, 1) := by decide +kernel
theorem dX11_trial_11 : decode cX11_trial 11 = .ok (.invokestatic 46, 3) := by decide +kernel
theorem dX11_trial_14 : decode cX11_trial 14 = .ok (.ifCond .ne 5, 3) := by decide +kernel
theorem dX11_trial_17 : decode cX11_trial 17 = .ok (.iconst (-1), 1) := by decide +kernel
theorem dX11_trial_18 : decode cX11_trial 18 = .ok (.ireturn, 1) := by decide +kernel
theorem dX11_trial_19 : decode cX11_trial 19 = .ok (.iload_n 2, 1) := by decide +kernel
theorem dX11_trial_20 : decode cX11_trial 20 = .ok (.iconst 0, 1) := by decide +kernel
theorem dX11_trial_21 : decode cX11_trial 21 = .ok (.bipush 100, 2) := by decide +kernel
theorem dX11_trial_23 : decode cX11_trial 23 = .ok (.invokestatic 46, 3) := by decide +kernel
theorem dX11_trial_26 : decode cX11_trial 26 = .ok (.ifCond .ne 6, 3) := by decide +kernel
theorem dX11_trial_29 : decode cX11_trial 29 = .ok (.bipush (-2), 2) := by decide +kernel
theorem dX11_trial_31 : decode cX11_trial 31 = .ok (.ireturn, 1) := by decide +kernel
theorem dX11_trial_32 : decode cX11_trial 32 = .ok (.aload_n 0, 1) := by decide +kernel
theorem dX11_trial_33 : decode cX11_trial 33 = .ok (.getfield 11, 3) := by decide +kernel
theorem dX11_trial_36 : decode cX11_trial 36 = .ok (.aload_n 0, 1) := by decide +kernel
theorem dX11_trial_37 : decode cX11_trial 37 = .ok (.getfield 18, 3) := by decide +kernel
theorem dX11_trial_40 : decode cX11_trial 40 = .ok (.invokestatic 279, 3) := by decide +kernel
theorem dX11_trial_43 : decode cX11_trial 43 = .ok (.aload_n 0, 1) := by decide +kernel
theorem dX11_trial_44 : decode cX11_trial 44 = .ok (.iload_n 2, 1) := by decide +kernel
theorem dX11_trial_45 : decode cX11_trial 45 = .ok (.invokevirtual 214, 3) := by decide +kernel
theorem dX11_trial_48 : decode cX11_trial 48 = .ok (.pop, 1) := by decide +kernel
theorem dX11_trial_49 : decode cX11_trial 49 = .ok (.aload_n 0, 1) := by decide +kernel
theorem dX11_trial_50 : decode cX11_trial 50 = .ok (.iload_n 1, 1) := by decide +kernel
theorem dX11_trial_51 : decode cX11_trial 51 = .ok (.iload_n 3, 1) := by decide +kernel
theorem dX11_trial_52 : decode cX11_trial 52 = .ok (.invokevirtual 289, 3) := by decide +kernel
theorem dX11_trial_55 : decode cX11_trial 55 = .ok (.istore 4, 2) := by decide +kernel
theorem dX11_trial_57 : decode cX11_trial 57 = .ok (.aload_n 0, 1) := by decide +kernel
theorem dX11_trial_58 : decode cX11_trial 58 = .ok (.getfield 18, 3) := by decide +kernel
theorem dX11_trial_61 : decode cX11_trial 61 = .ok (.aload_n 0, 1) := by decide +kernel
theorem dX11_trial_62 : decode cX11_trial 62 = .ok (.getfield 11, 3) := by decide +kernel
theorem dX11_trial_65 : decode cX11_trial 65 = .ok (.invokestatic 279, 3) := by decide +kernel
theorem dX11_trial_68 : decode cX11_trial 68 = .ok (.iload 4, 2) := by decide +kernel
theorem dX11_trial_70 : decode cX11_trial 70 = .ok (.ireturn, 1) := by decide +kernel
theorem dX11_log_0 : decode cX11_log 0 = .ok (.iload_n 1, 1) := by decide +kernel
theorem dX11_log_1 : decode cX11_log 1 = .ok (.iconst 0, 1) := by decide +kernel
theorem dX11_log_2 : decode cX11_log 2 = .ok (.aload_n 0, 1) := by decide +kernel
theorem dX11_log_3 : decode cX11_log 3 = .ok (.getfield 11, 3) := by decide +kernel
theorem dX11_log_6 : decode cX11_log 6 = .ok (.iconst 2, 1) := by decide +kernel
theorem dX11_log_7 : decode cX11_log 7 = .ok (.iaload, 1) := by decide +kernel
theorem dX11_log_8 : decode cX11_log 8 = .ok (.iconst 1, 1) := by decide +kernel
theorem dX11_log_9 : decode cX11_log 9 = .ok (.isub, 1) := by decide +kernel
theorem dX11_log_10 : decode cX11_log 10 = .ok (.invokestatic 46, 3) := by decide +kernel
theorem dX11_log_13 : decode cX11_log 13 = .ok (.ifCond .eq 16, 3) := by decide +kernel
theorem dX11_log_16 : decode cX11_log 16 = .ok (.aload_n 0, 1) := by decide +kernel
theorem dX11_log_17 : decode cX11_log 17 = .ok (.getfield 11, 3) := by decide +kernel
theorem dX11_log_20 : decode cX11_log 20 = .ok (.sipush 1518, 3) := by decide +kernel
theorem dX11_log_23 : decode cX11_log 23 = .ok (.iload_n 1, 1) := by decide +kernel
theorem dX11_log_24 : decode cX11_log 24 = .ok (.iadd, 1) := by decide +kernel
theorem dX11_log_25 : decode cX11_log 25 = .ok (.iaload, 1) := by decide +kernel
theorem dX11_log_26 : decode cX11_log 26 = .ok (.goto 4, 3) := by decide +kernel
theorem dX11_log_29 : decode cX11_log 29 = .ok (.iconst (-1), 1) := by decide +kernel
theorem dX11_log_30 : decode cX11_log 30 = .ok (.ireturn, 1) := by decide +kernel
theorem dX11_opened_0 : decode cX11_opened 0 = .ok (.iconst 0, 1) := by decide +kernel
theorem dX11_opened_1 : decode cX11_opened 1 = .ok (.istore_n 1, 1) := by decide +kernel
theorem dX11_opened_2 : decode cX11_opened 2 = .ok (.iconst 0, 1) := by decide +kernel
theorem dX11_opened_3 : decode cX11_opened 3 = .ok (.istore_n 2, 1) := by decide +kernel
theorem dX11_opened_4 : decode cX11_opened 4 = .ok (.iload_n 2, 1) := by decide +kernel
theorem dX11_opened_5 : decode cX11_opened 5 = .ok (.aload_n 0, 1) := by decide +kernel
theorem dX11_opened_6 : decode cX11_opened 6 = .ok (.getfield 11, 3) := by decide +kernel
theorem dX11_opened_9 : decode cX11_opened 9 = .ok (.iconst 0, 1) := by decide +kernel
theorem dX11_opened_10 : decode cX11_opened 10 = .ok (.iaload, 1) := by decide +kernel
theorem dX11_opened_11 : decode cX11_opened 11 = .ok (.if_icmp .ge 25, 3) := by decide +kernel
theorem dX11_opened_14 : decode cX11_opened 14 = .ok (.iload_n 1, 1) := by decide +kernel
theorem dX11_opened_15 : decode cX11_opened 15 = .ok (.aload_n 0, 1) := by decide +kernel
theorem dX11_opened_16 : decode cX11_opened 16 = .ok (.iload_n 2, 1) := by decide +kernel
theorem dX11_opened_17 : decode cX11_opened 17 = .ok (.invokevirtual 146, 3) := by decide +kernel
theorem dX11_opened_20 : decode cX11_opened 20 = .ok (.ifCond .eq 7, 3) := by decide +kernel
theorem dX11_opened_23 : decode cX11_opened 23 = .ok (.iconst 1, 1) := by decide +kernel
theorem dX11_opened_24 : decode cX11_opened 24 = .ok (.goto 4, 3) := by decide +kernel
theorem dX11_opened_27 : decode cX11_opened 27 = .ok (.iconst 0, 1) := by decide +kernel
theorem dX11_opened_28 : decode cX11_opened 28 = .ok (.iadd, 1) := by decide +kernel
theorem dX11_opened_29 : decode cX11_opened 29 = .ok (.istore_n 1, 1) := by decide +kernel
theorem dX11_opened_30 : decode cX11_opened 30 = .ok (.iinc 2 1, 3) := by decide +kernel
theorem dX11_opened_33 : decode cX11_opened 33 = .ok (.goto (-29), 3) := by decide +kernel
theorem dX11_opened_36 : decode cX11_opened 36 = .ok (.iload_n 1, 1) := by decide +kernel
theorem dX11_opened_37 : decode cX11_opened 37 = .ok (.ireturn, 1) := by decide +kernel
theorem dX11_readyOnes_0 : decode cX11_readyOnes 0 = .ok (.iconst 0, 1) := by decide +kernel
theorem dX11_readyOnes_1 : decode cX11_readyOnes 1 = .ok (.istore_n 1, 1) := by decide +kernel
theorem dX11_readyOnes_2 : decode cX11_readyOnes 2 = .ok (.iconst 0, 1) := by decide +kernel
theorem dX11_readyOnes_3 : decode cX11_readyOnes 3 = .ok (.istore_n 2, 1) := by decide +kernel
theorem dX11_readyOnes_4 : decode cX11_readyOnes 4 = .ok (.iload_n 2, 1) := by decide +kernel
theorem dX11_readyOnes_5 : decode cX11_readyOnes 5 = .ok (.aload_n 0, 1) := by decide +kernel
theorem dX11_readyOnes_6 : decode cX11_readyOnes 6 = .ok (.getfield 11, 3) := by decide +kernel
theorem dX11_readyOnes_9 : decode cX11_readyOnes 9 = .ok (.iconst 3, 1) := by decide +kernel
theorem dX11_readyOnes_10 : decode cX11_readyOnes 10 = .ok (.iaload, 1) := by decide +kernel
theorem dX11_readyOnes_11 : decode cX11_readyOnes 11 = .ok (.if_icmp .ge 25, 3) := by decide +kernel
theorem dX11_readyOnes_14 : decode cX11_readyOnes 14 = .ok (.iload_n 1, 1) := by decide +kernel
theorem dX11_readyOnes_15 : decode cX11_readyOnes 15 = .ok (.aload_n 0, 1) := by decide +kernel
theorem dX11_readyOnes_16 : decode cX11_readyOnes 16 = .ok (.iload_n 2, 1) := by decide +kernel
theorem dX11_readyOnes_17 : decode cX11_readyOnes 17 = .ok (.invokevirtual 183, 3) := by decide +kernel
theorem dX11_readyOnes_20 : decode cX11_readyOnes 20 = .ok (.ifCond .eq 7, 3) := by decide +kernel
theorem dX11_readyOnes_23 : decode cX11_readyOnes 23 = .ok (.iconst 1, 1) := by decide +kernel
theorem dX11_readyOnes_24 : decode cX11_readyOnes 24 = .ok (.goto 4, 3) := by decide +kernel
theorem dX11_readyOnes_27 : decode cX11_readyOnes 27 = .ok (.iconst 0, 1) := by decide +kernel
theorem dX11_readyOnes_28 : decode cX11_readyOnes 28 = .ok (.iadd, 1) := by decide +kernel
theorem dX11_readyOnes_29 : decode cX11_readyOnes 29 = .ok (.istore_n 1, 1) := by decide +kernel
theorem dX11_readyOnes_30 : decode cX11_readyOnes 30 = .ok (.iinc 2 1, 3) := by decide +kernel
theorem dX11_readyOnes_33 : decode cX11_readyOnes 33 = .ok (.goto (-29), 3) := by decide +kernel
theorem dX11_readyOnes_36 : decode cX11_readyOnes 36 = .ok (.iload_n 1, 1) := by decide +kernel
theorem dX11_readyOnes_37 : decode cX11_readyOnes 37 = .ok (.ireturn, 1) := by decide +kernel
theorem dX11_told_0 : decode cX11_told 0 = .ok (.iload_n 1, 1) := by decide +kernel
theorem dX11_told_1 : decode cX11_told 1 = .ok (.tableswitch 116 0 9 #[55, 62, 67, 74, 79, 86, 91, 99, 106, 111], 55) := by decide +kernel
theorem dX11_told_56 : decode cX11_told 56 = .ok (.aload_n 0, 1) := by decide +kernel
theorem dX11_told_57 : decode cX11_told 57 = .ok (.getfield 11, 3) := by decide +kernel
theorem dX11_told_60 : decode cX11_told 60 = .ok (.iconst 0, 1) := by decide +kernel
theorem dX11_told_61 : decode cX11_told 61 = .ok (.iaload, 1) := by decide +kernel
theorem dX11_told_62 : decode cX11_told 62 = .ok (.ireturn, 1) := by decide +kernel
theorem dX11_told_63 : decode cX11_told 63 = .ok (.aload_n 0, 1) := by decide +kernel
theorem dX11_told_64 : decode cX11_told 64 = .ok (.invokevirtual 292, 3) := by decide +kernel
theorem dX11_told_67 : decode cX11_told 67 = .ok (.ireturn, 1) := by decide +kernel
theorem dX11_told_68 : decode cX11_told 68 = .ok (.aload_n 0, 1) := by decide +kernel
theorem dX11_told_69 : decode cX11_told 69 = .ok (.getfield 11, 3) := by decide +kernel
theorem dX11_told_72 : decode cX11_told 72 = .ok (.iconst 1, 1) := by decide +kernel
theorem dX11_told_73 : decode cX11_told 73 = .ok (.iaload, 1) := by decide +kernel
theorem dX11_told_74 : decode cX11_told 74 = .ok (.ireturn, 1) := by decide +kernel
theorem dX11_told_75 : decode cX11_told 75 = .ok (.aload_n 0, 1) := by decide +kernel
theorem dX11_told_76 : decode cX11_told 76 = .ok (.invokevirtual 276, 3) := by decide +kernel
theorem dX11_told_79 : decode cX11_told 79 = .ok (.ireturn, 1) := by decide +kernel
theorem dX11_told_80 : decode cX11_told 80 = .ok (.aload_n 0, 1) := by decide +kernel
theorem dX11_told_81 : decode cX11_told 81 = .ok (.getfield 11, 3) := by decide +kernel
theorem dX11_told_84 : decode cX11_told 84 = .ok (.iconst 3, 1) := by decide +kernel
theorem dX11_told_85 : decode cX11_told 85 = .ok (.iaload, 1) := by decide +kernel
theorem dX11_told_86 : decode cX11_told 86 = .ok (.ireturn, 1) := by decide +kernel
theorem dX11_told_87 : decode cX11_told 87 = .ok (.aload_n 0, 1) := by decide +kernel
theorem dX11_told_88 : decode cX11_told 88 = .ok (.invokevirtual 295, 3) := by decide +kernel
theorem dX11_told_91 : decode cX11_told 91 = .ok (.ireturn, 1) := by decide +kernel
theorem dX11_told_92 : decode cX11_told 92 = .ok (.aload_n 0, 1) := by decide +kernel
theorem dX11_told_93 : decode cX11_told 93 = .ok (.getfield 11, 3) := by decide +kernel
theorem dX11_told_96 : decode cX11_told 96 = .ok (.bipush 7, 2) := by decide +kernel
theorem dX11_told_98 : decode cX11_told 98 = .ok (.iaload, 1) := by decide +kernel
theorem dX11_told_99 : decode cX11_told 99 = .ok (.ireturn, 1) := by decide +kernel
theorem dX11_told_100 : decode cX11_told 100 = .ok (.aload_n 0, 1) := by decide +kernel
theorem dX11_told_101 : decode cX11_told 101 = .ok (.getfield 11, 3) := by decide +kernel
theorem dX11_told_104 : decode cX11_told 104 = .ok (.iconst 2, 1) := by decide +kernel
theorem dX11_told_105 : decode cX11_told 105 = .ok (.iaload, 1) := by decide +kernel
theorem dX11_told_106 : decode cX11_told 106 = .ok (.ireturn, 1) := by decide +kernel
theorem dX11_told_107 : decode cX11_told 107 = .ok (.aload_n 0, 1) := by decide +kernel
theorem dX11_told_108 : decode cX11_told 108 = .ok (.getfield 61, 3) := by decide +kernel
theorem dX11_told_111 : decode cX11_told 111 = .ok (.ireturn, 1) := by decide +kernel
theorem dX11_told_112 : decode cX11_told 112 = .ok (.aload_n 0, 1) := by decide +kernel
theorem dX11_told_113 : decode cX11_told 113 = .ok (.getfield 298, 3) := by decide +kernel
theorem dX11_told_116 : decode cX11_told 116 = .ok (.ireturn, 1) := by decide +kernel
theorem dX11_told_117 : decode cX11_told 117 = .ok (.iconst (-1), 1) := by decide +kernel
theorem dX11_told_118 : decode cX11_told 118 = .ok (.ireturn, 1) := by decide +kernel
theorem dX11_spells_0 : decode cX11_spells 0 = .ok (.aload_n 0, 1) := by decide +kernel
theorem dX11_spells_1 : decode cX11_spells 1 = .ok (.iconst 0, 1) := by decide +kernel
theorem dX11_spells_2 : decode cX11_spells 2 = .ok (.putfield 298, 3) := by decide +kernel
theorem dX11_spells_5 : decode cX11_spells 5 = .ok (.iconst 0, 1) := by decide +kernel
theorem dX11_spells_6 : decode cX11_spells 6 = .ok (.istore_n 3, 1) := by decide +kernel
theorem dX11_spells_7 : decode cX11_spells 7 = .ok (.iload_n 1, 1) := by decide +kernel
theorem dX11_spells_8 : decode cX11_spells 8 = .ok (.istore 4, 2) := by decide +kernel
theorem dX11_spells_10 : decode cX11_spells 10 = .ok (.iload 4, 2) := by decide +kernel
theorem dX11_spells_12 : decode cX11_spells 12 = .ok (.iload_n 2, 1) := by decide +kernel
theorem dX11_spells_13 : decode cX11_spells 13 = .ok (.if_icmp .ge 149, 3) := by decide +kernel
theorem dX11_spells_16 : decode cX11_spells 16 = .ok (.aload_n 0, 1) := by decide +kernel
theorem dX11_spells_17 : decode cX11_spells 17 = .ok (.getfield 21, 3) := by decide +kernel
theorem dX11_spells_20 : decode cX11_spells 20 = .ok (.iload 4, 2) := by decide +kernel
theorem dX11_spells_22 : decode cX11_spells 22 = .ok (.iaload, 1) := by decide +kernel
theorem dX11_spells_23 : decode cX11_spells 23 = .ok (.istore 5, 2) := by decide +kernel
theorem dX11_spells_25 : decode cX11_spells 25 = .ok (.iload 5, 2) := by decide +kernel
theorem dX11_spells_27 : decode cX11_spells 27 = .ok (.bipush 48, 2) := by decide +kernel
theorem dX11_spells_29 : decode cX11_spells 29 = .ok (.bipush 57, 2) := by decide +kernel
theorem dX11_spells_31 : decode cX11_spells 31 = .ok (.invokestatic 46, 3) := by decide +kernel
theorem dX11_spells_34 : decode cX11_spells 34 = .ok (.istore 6, 2) := by decide +kernel
theorem dX11_spells_36 : decode cX11_spells 36 = .ok (.iload 5, 2) := by decide +kernel
theorem dX11_spells_38 : decode cX11_spells 38 = .ok (.bipush 45, 2) := by decide +kernel
theorem dX11_spells_40 : decode cX11_spells 40 = .ok (.if_icmp .ne 15, 3) := by decide +kernel
theorem dX11_spells_43 : decode cX11_spells 43 = .ok (.aload_n 0, 1) := by decide +kernel
theorem dX11_spells_44 : decode cX11_spells 44 = .ok (.iload 4, 2) := by decide +kernel
theorem dX11_spells_46 : decode cX11_spells 46 = .ok (.invokevirtual 171, 3) := by decide +kernel
theorem dX11_spells_49 : decode cX11_spells 49 = .ok (.ifCond .ne 6, 3) := by decide +kernel
theorem dX11_spells_52 : decode cX11_spells 52 = .ok (.goto 104, 3) := by decide +kernel
theorem dX11_spells_55 : decode cX11_spells 55 = .ok (.iload 5, 2) := by decide +kernel
theorem dX11_spells_57 : decode cX11_spells 57 = .ok (.bipush 48, 2) := by decide +kernel
theorem dX11_spells_59 : decode cX11_spells 59 = .ok (.if_icmp .ne 38, 3) := by decide +kernel
theorem dX11_spells_62 : decode cX11_spells 62 = .ok (.iload_n 3, 1) := by decide +kernel
theorem dX11_spells_63 : decode cX11_spells 63 = .ok (.ifCond .ne 34, 3) := by decide +kernel
theorem dX11_spells_66 : decode cX11_spells 66 = .ok (.iload 4, 2) := by decide +kernel
theorem dX11_spells_68 : decode cX11_spells 68 = .ok (.iconst 1, 1) := by decide +kernel
theorem dX11_spells_69 : decode cX11_spells 69 = .ok (.iadd, 1) := by decide +kernel
theorem dX11_spells_70 : decode cX11_spells 70 = .ok (.iload_n 2, 1) := by decide +kernel
theorem dX11_spells_71 : decode cX11_spells 71 = .ok (.if_icmp .ge 26, 3) := by decide +kernel
theorem dX11_spells_74 : decode cX11_spells 74 = .ok (.aload_n 0, 1) := by decide +kernel
theorem dX11_spells_75 : decode cX11_spells 75 = .ok (.getfield 21, 3) := by decide +kernel
theorem dX11_spells_78 : decode cX11_spells 78 = .ok (.iload 4, 2) := by decide +kernel
theorem dX11_spells_80 : decode cX11_spells 80 = .ok (.iconst 1, 1) := by decide +kernel
theorem dX11_spells_81 : decode cX11_spells 81 = .ok (.iadd, 1) := by decide +kernel
theorem dX11_spells_82 : decode cX11_spells 82 = .ok (.iaload, 1) := by decide +kernel
theorem dX11_spells_83 : decode cX11_spells 83 = .ok (.bipush 48, 2) := by decide +kernel
theorem dX11_spells_85 : decode cX11_spells 85 = .ok (.bipush 57, 2) := by decide +kernel
theorem dX11_spells_87 : decode cX11_spells 87 = .ok (.invokestatic 46, 3) := by decide +kernel
theorem dX11_spells_90 : decode cX11_spells 90 = .ok (.ifCond .eq 7, 3) := by decide +kernel
theorem dX11_spells_93 : decode cX11_spells 93 = .ok (.iconst 1, 1) := by decide +kernel
theorem dX11_spells_94 : decode cX11_spells 94 = .ok (.goto 4, 3) := by decide +kernel
theorem dX11_spells_97 : decode cX11_spells 97 = .ok (.iconst 0, 1) := by decide +kernel
theorem dX11_spells_98 : decode cX11_spells 98 = .ok (.istore 7, 2) := by decide +kernel
theorem dX11_spells_100 : decode cX11_spells 100 = .ok (.iload 6, 2) := by decide +kernel
theorem dX11_spells_102 : decode cX11_spells 102 = .ok (.ifCond .eq 23, 3) := by decide +kernel
theorem dX11_spells_105 : decode cX11_spells 105 = .ok (.iload_n 3, 1) := by decide +kernel
theorem dX11_spells_106 : decode cX11_spells 106 = .ok (.ifCond .ne 15, 3) := by decide +kernel
theorem dX11_spells_109 : decode cX11_spells 109 = .ok (.iload 5, 2) := by decide +kernel
theorem dX11_spells_111 : decode cX11_spells 111 = .ok (.bipush 48, 2) := by decide +kernel
theorem dX11_spells_113 : decode cX11_spells 113 = .ok (.if_icmp .ne 8, 3) := by decide +kernel
theorem dX11_spells_116 : decode cX11_spells 116 = .ok (.iload 7, 2) := by decide +kernel
theorem dX11_spells_118 : decode cX11_spells 118 = .ok (.ifCond .ne 7, 3) := by decide +kernel
theorem dX11_spells_121 : decode cX11_spells 121 = .ok (.iconst 1, 1) := by decide +kernel
theorem dX11_spells_122 : decode cX11_spells 122 = .ok (.goto 4, 3) := by decide +kernel
theorem dX11_spells_125 : decode cX11_spells 125 = .ok (.iconst 0, 1) := by decide +kernel
theorem dX11_spells_126 : decode cX11_spells 126 = .ok (.istore_n 3, 1) := by decide +kernel
theorem dX11_spells_127 : decode cX11_spells 127 = .ok (.iload 7, 2) := by decide +kernel
theorem dX11_spells_129 : decode cX11_spells 129 = .ok (.ifCond .eq 6, 3) := by decide +kernel
theorem dX11_spells_132 : decode cX11_spells 132 = .ok (.goto 24, 3) := by decide +kernel
theorem dX11_spells_135 : decode cX11_spells 135 = .ok (.aload_n 0, 1) := by decide +kernel
theorem dX11_spells_136 : decode cX11_spells 136 = .ok (.getfield 33, 3) := by decide +kernel
theorem dX11_spells_139 : decode cX11_spells 139 = .ok (.aload_n 0, 1) := by decide +kernel
theorem dX11_spells_140 : decode cX11_spells 140 = .ok (.getfield 298, 3) := by decide +kernel
theorem dX11_spells_143 : decode cX11_spells 143 = .ok (.iload 5, 2) := by decide +kernel
theorem dX11_spells_145 : decode cX11_spells 145 = .ok (.iastore, 1) := by decide +kernel
theorem dX11_spells_146 : decode cX11_spells 146 = .ok (.aload_n 0, 1) := by decide +kernel
theorem dX11_spells_147 : decode cX11_spells 147 = .ok (.dup, 1) := by decide +kernel
theorem dX11_spells_148 : decode cX11_spells 148 = .ok (.getfield 298, 3) := by decide +kernel
theorem dX11_spells_151 : decode cX11_spells 151 = .ok (.iconst 1, 1) := by decide +kernel
theorem dX11_spells_152 : decode cX11_spells 152 = .ok (.iadd, 1) := by decide +kernel
theorem dX11_spells_153 : decode cX11_spells 153 = .ok (.putfield 298, 3) := by decide +kernel
theorem dX11_spells_156 : decode cX11_spells 156 = .ok (.iinc 4 1, 3) := by decide +kernel
theorem dX11_spells_159 : decode cX11_spells 159 = .ok (.goto (-149), 3) := by decide +kernel
theorem dX11_spells_162 : decode cX11_spells 162 = .ok (.return_, 1) := by decide +kernel
theorem dX11_spell_0 : decode cX11_spell 0 = .ok (.aload_n 0, 1) := by decide +kernel
theorem dX11_spell_1 : decode cX11_spell 1 = .ok (.iload_n 1, 1) := by decide +kernel
theorem dX11_spell_2 : decode cX11_spell 2 = .ok (.invokevirtual 238, 3) := by decide +kernel
theorem dX11_spell_5 : decode cX11_spell 5 = .ok (.ifCond .ne 5, 3) := by decide +kernel
theorem dX11_spell_8 : decode cX11_spell 8 = .ok (.iconst (-1), 1) := by decide +kernel
theorem dX11_spell_9 : decode cX11_spell 9 = .ok (.ireturn, 1) := by decide +kernel
theorem dX11_spell_10 : decode cX11_spell 10 = .ok (.aload_n 0, 1) := by decide +kernel
theorem dX11_spell_11 : decode cX11_spell 11 = .ok (.aload_n 0, 1) := by decide +kernel
theorem dX11_spell_12 : decode cX11_spell 12 = .ok (.getfield 11, 3) := by decide +kernel
theorem dX11_spell_15 : decode cX11_spell 15 = .ok (.iload_n 1, 1) := by decide +kernel
theorem dX11_spell_16 : decode cX11_spell 16 = .ok (.iconst 4, 1) := by decide +kernel
theorem dX11_spell_17 : decode cX11_spell 17 = .ok (.iconst 0, 1) := by decide +kernel
theorem dX11_spell_18 : decode cX11_spell 18 = .ok (.invokestatic 54, 3) := by decide +kernel
theorem dX11_spell_21 : decode cX11_spell 21 = .ok (.iaload, 1) := by decide +kernel
theorem dX11_spell_22 : decode cX11_spell 22 = .ok (.aload_n 0, 1) := by decide +kernel
theorem dX11_spell_23 : decode cX11_spell 23 = .ok (.getfield 11, 3) := by decide +kernel
theorem dX11_spell_26 : decode cX11_spell 26 = .ok (.iload_n 1, 1) := by decide +kernel
theorem dX11_spell_27 : decode cX11_spell 27 = .ok (.iconst 5, 1) := by decide +kernel
theorem dX11_spell_28 : decode cX11_spell 28 = .ok (.iconst 0, 1) := by decide +kernel
theorem dX11_spell_29 : decode cX11_spell 29 = .ok (.invokestatic 54, 3) := by decide +kernel
theorem dX11_spell_32 : decode cX11_spell 32 = .ok (.iaload, 1) := by decide +kernel
theorem dX11_spell_33 : decode cX11_spell 33 = .ok (.invokevirtual 301, 3) := by decide +kernel
theorem dX11_spell_36 : decode cX11_spell 36 = .ok (.aload_n 0, 1) := by decide +kernel
theorem dX11_spell_37 : decode cX11_spell 37 = .ok (.getfield 298, 3) := by decide +kernel
theorem dX11_spell_40 : decode cX11_spell 40 = .ok (.ireturn, 1) := by decide +kernel
theorem dX11_spellTask_0 : decode cX11_spellTask 0 = .ok (.aload_n 0, 1) := by decide +kernel
theorem dX11_spellTask_1 : decode cX11_spellTask 1 = .ok (.iload_n 1, 1) := by decide +kernel
theorem dX11_spellTask_2 : decode cX11_spellTask 2 = .ok (.invokevirtual 180, 3) := by decide +kernel
theorem dX11_spellTask_5 : decode cX11_spellTask 5 = .ok (.ifCond .ne 5, 3) := by decide +kernel
theorem dX11_spellTask_8 : decode cX11_spellTask 8 = .ok (.iconst (-1), 1) := by decide +kernel
theorem dX11_spellTask_9 : decode cX11_spellTask 9 = .ok (.ireturn, 1) := by decide +kernel
theorem dX11_spellTask_10 : decode cX11_spellTask 10 = .ok (.aload_n 0, 1) := by decide +kernel
theorem dX11_spellTask_11 : decode cX11_spellTask 11 = .ok (.aload_n 0, 1) := by decide +kernel
theorem dX11_spellTask_12 : decode cX11_spellTask 12 = .ok (.getfield 11, 3) := by decide +kernel
theorem dX11_spellTask_15 : decode cX11_spellTask 15 = .ok (.iload_n 1, 1) := by decide +kernel
theorem dX11_spellTask_16 : decode cX11_spellTask 16 = .ok (.bipush 8, 2) := by decide +kernel
theorem dX11_spellTask_18 : decode cX11_spellTask 18 = .ok (.iconst 0, 1) := by decide +kernel
theorem dX11_spellTask_19 : decode cX11_spellTask 19 = .ok (.invokestatic 58, 3) := by decide +kernel
theorem dX11_spellTask_22 : decode cX11_spellTask 22 = .ok (.iaload, 1) := by decide +kernel
theorem dX11_spellTask_23 : decode cX11_spellTask 23 = .ok (.aload_n 0, 1) := by decide +kernel
theorem dX11_spellTask_24 : decode cX11_spellTask 24 = .ok (.getfield 11, 3) := by decide +kernel
theorem dX11_spellTask_27 : decode cX11_spellTask 27 = .ok (.iload_n 1, 1) := by decide +kernel
theorem dX11_spellTask_28 : decode cX11_spellTask 28 = .ok (.bipush 9, 2) := by decide +kernel
theorem dX11_spellTask_30 : decode cX11_spellTask 30 = .ok (.iconst 0, 1) := by decide +kernel
theorem dX11_spellTask_31 : decode cX11_spellTask 31 = .ok (.invokestatic 58, 3) := by decide +kernel
theorem dX11_spellTask_34 : decode cX11_spellTask 34 = .ok (.iaload, 1) := by decide +kernel
theorem dX11_spellTask_35 : decode cX11_spellTask 35 = .ok (.invokevirtual 301, 3) := by decide +kernel
theorem dX11_spellTask_38 : decode cX11_spellTask 38 = .ok (.aload_n 0, 1) := by decide +kernel
theorem dX11_spellTask_39 : decode cX11_spellTask 39 = .ok (.getfield 298, 3) := by decide +kernel
theorem dX11_spellTask_42 : decode cX11_spellTask 42 = .ok (.ireturn, 1) := by decide +kernel
theorem dX11_paper_0 : decode cX11_paper 0 = .ok (.iload_n 1, 1) := by decide +kernel
theorem dX11_paper_1 : decode cX11_paper 1 = .ok (.iconst 0, 1) := by decide +kernel
theorem dX11_paper_2 : decode cX11_paper 2 = .ok (.aload_n 0, 1) := by decide +kernel
theorem dX11_paper_3 : decode cX11_paper 3 = .ok (.getfield 298, 3) := by decide +kernel
theorem dX11_paper_6 : decode cX11_paper 6 = .ok (.iconst 1, 1) := by decide +kernel
theorem dX11_paper_7 : decode cX11_paper 7 = .ok (.isub, 1) := by decide +kernel
theorem dX11_paper_8 : decode cX11_paper 8 = .ok (.invokestatic 46, 3) := by decide +kernel
theorem dX11_paper_11 : decode cX11_paper 11 = .ok (.ifCond .eq 12, 3) := by decide +kernel
theorem dX11_paper_14 : decode cX11_paper 14 = .ok (.aload_n 0, 1) := by decide +kernel
theorem dX11_paper_15 : decode cX11_paper 15 = .ok (.getfield 33, 3) := by decide +kernel
theorem dX11_paper_18 : decode cX11_paper 18 = .ok (.iload_n 1, 1) := by decide +kernel
theorem dX11_paper_19 : decode cX11_paper 19 = .ok (.iaload, 1) := by decide +kernel
theorem dX11_paper_20 : decode cX11_paper 20 = .ok (.goto 4, 3) := by decide +kernel
theorem dX11_paper_23 : decode cX11_paper 23 = .ok (.iconst (-1), 1) := by decide +kernel
theorem dX11_paper_24 : decode cX11_paper 24 = .ok (.ireturn, 1) := by decide +kernel
theorem dX11_isRow_0 : decode cX11_isRow 0 = .ok (.iload_n 0, 1) := by decide +kernel
theorem dX11_isRow_1 : decode cX11_isRow 1 = .ok (.iconst 0, 1) := by decide +kernel
theorem dX11_isRow_2 : decode cX11_isRow 2 = .ok (.iconst 3, 1) := by decide +kernel
theorem dX11_isRow_3 : decode cX11_isRow 3 = .ok (.invokestatic 46, 3) := by decide +kernel
theorem dX11_isRow_6 : decode cX11_isRow 6 = .ok (.ireturn, 1) := by decide +kernel
theorem dX11_wrong_0 : decode cX11_wrong 0 = .ok (.iload_n 1, 1) := by decide +kernel
theorem dX11_wrong_1 : decode cX11_wrong 1 = .ok (.invokestatic 304, 3) := by decide +kernel
theorem dX11_wrong_4 : decode cX11_wrong 4 = .ok (.ifCond .ne 7, 3) := by decide +kernel
theorem dX11_wrong_7 : decode cX11_wrong 7 = .ok (.iconst (-1), 1) := by decide +kernel
theorem dX11_wrong_8 : decode cX11_wrong 8 = .ok (.goto 18, 3) := by decide +kernel
theorem dX11_wrong_11 : decode cX11_wrong 11 = .ok (.aload_n 0, 1) := by decide +kernel
theorem dX11_wrong_12 : decode cX11_wrong 12 = .ok (.getfield 36, 3) := by decide +kernel
theorem dX11_wrong_15 : decode cX11_wrong 15 = .ok (.iload_n 1, 1) := by decide +kernel
theorem dX11_wrong_16 : decode cX11_wrong 16 = .ok (.iaload, 1) := by decide +kernel
theorem dX11_wrong_17 : decode cX11_wrong 17 = .ok (.ifCond .ge 8, 3) := by decide +kernel
theorem dX11_wrong_20 : decode cX11_wrong 20 = .ok (.bipush (-11), 2) := by decide +kernel
theorem dX11_wrong_22 : decode cX11_wrong 22 = .ok (.goto 4, 3) := by decide +kernel
theorem dX11_wrong_25 : decode cX11_wrong 25 = .ok (.iconst 0, 1) := by decide +kernel
theorem dX11_wrong_26 : decode cX11_wrong 26 = .ok (.ireturn, 1) := by decide +kernel
theorem dX11_row_0 : decode cX11_row 0 = .ok (.iload_n 1, 1) := by decide +kernel
theorem dX11_row_1 : decode cX11_row 1 = .ok (.invokestatic 304, 3) := by decide +kernel
theorem dX11_row_4 : decode cX11_row 4 = .ok (.ifCond .ne 5, 3) := by decide +kernel
theorem dX11_row_7 : decode cX11_row 7 = .ok (.iconst (-1), 1) := by decide +kernel
theorem dX11_row_8 : decode cX11_row 8 = .ok (.ireturn, 1) := by decide +kernel
theorem dX11_row_9 : decode cX11_row 9 = .ok (.iload_n 2, 1) := by decide +kernel
theorem dX11_row_10 : decode cX11_row 10 = .ok (.bipush 40, 2) := by decide +kernel
theorem dX11_row_12 : decode cX11_row 12 = .ok (.if_icmp .le 6, 3) := by decide +kernel
theorem dX11_row_15 : decode cX11_row 15 = .ok (.bipush (-2), 2) := by decide +kernel
theorem dX11_row_17 : decode cX11_row 17 = .ok (.ireturn, 1) := by decide +kernel
theorem dX11_row_18 : decode cX11_row 18 = .ok (.iload_n 2, 1) := by decide +kernel
theorem dX11_row_19 : decode cX11_row 19 = .ok (.ifCond .ge 6, 3) := by decide +kernel
theorem dX11_row_22 : decode cX11_row 22 = .ok (.bipush (-14), 2) := by decide +kernel
theorem dX11_row_24 : decode cX11_row 24 = .ok (.ireturn, 1) := by decide +kernel
theorem dX11_row_25 : decode cX11_row 25 = .ok (.aload_n 0, 1) := by decide +kernel
theorem dX11_row_26 : decode cX11_row 26 = .ok (.getfield 36, 3) := by decide +kernel
theorem dX11_row_29 : decode cX11_row 29 = .ok (.iload_n 1, 1) := by decide +kernel
theorem dX11_row_30 : decode cX11_row 30 = .ok (.iload_n 2, 1) := by decide +kernel
theorem dX11_row_31 : decode cX11_row 31 = .ok (.iastore, 1) := by decide +kernel
theorem dX11_row_32 : decode cX11_row 32 = .ok (.iconst 0, 1) := by decide +kernel
theorem dX11_row_33 : decode cX11_row 33 = .ok (.istore_n 3, 1) := by decide +kernel
theorem dX11_row_34 : decode cX11_row 34 = .ok (.iload_n 3, 1) := by decide +kernel
theorem dX11_row_35 : decode cX11_row 35 = .ok (.bipush 40, 2) := by decide +kernel
theorem dX11_row_37 : decode cX11_row 37 = .ok (.if_icmp .ge 21, 3) := by decide +kernel
theorem dX11_row_40 : decode cX11_row 40 = .ok (.aload_n 0, 1) := by decide +kernel
theorem dX11_row_41 : decode cX11_row 41 = .ok (.getfield 39, 3) := by decide +kernel
theorem dX11_row_44 : decode cX11_row 44 = .ok (.bipush 40, 2) := by decide +kernel
theorem dX11_row_46 : decode cX11_row 46 = .ok (.iload_n 1, 1) := by decide +kernel
theorem dX11_row_47 : decode cX11_row 47 = .ok (.imul, 1) := by decide +kernel
theorem dX11_row_48 : decode cX11_row 48 = .ok (.iload_n 3, 1) := by decide +kernel
theorem dX11_row_49 : decode cX11_row 49 = .ok (.iadd, 1) := by decide +kernel
theorem dX11_row_50 : decode cX11_row 50 = .ok (.iconst 0, 1) := by decide +kernel
theorem dX11_row_51 : decode cX11_row 51 = .ok (.iastore, 1) := by decide +kernel
theorem dX11_row_52 : decode cX11_row 52 = .ok (.iinc 3 1, 3) := by decide +kernel
theorem dX11_row_55 : decode cX11_row 55 = .ok (.goto (-21), 3) := by decide +kernel
theorem dX11_row_58 : decode cX11_row 58 = .ok (.iconst 1, 1) := by decide +kernel
theorem dX11_row_59 : decode cX11_row 59 = .ok (.ireturn, 1) := by decide +kernel
theorem dX11_set_0 : decode cX11_set 0 = .ok (.aload_n 0, 1) := by decide +kernel
theorem dX11_set_1 : decode cX11_set 1 = .ok (.iload_n 1, 1) := by decide +kernel
theorem dX11_set_2 : decode cX11_set 2 = .ok (.invokevirtual 307, 3) := by decide +kernel
theorem dX11_set_5 : decode cX11_set 5 = .ok (.istore 4, 2) := by decide +kernel
theorem dX11_set_7 : decode cX11_set 7 = .ok (.iload 4, 2) := by decide +kernel
theorem dX11_set_9 : decode cX11_set 9 = .ok (.ifCond .eq 6, 3) := by decide +kernel
theorem dX11_set_12 : decode cX11_set 12 = .ok (.iload 4, 2) := by decide +kernel
theorem dX11_set_14 : decode cX11_set 14 = .ok (.ireturn, 1) := by decide +kernel
theorem dX11_set_15 : decode cX11_set 15 = .ok (.iload_n 2, 1) := by decide +kernel
theorem dX11_set_16 : decode cX11_set 16 = .ok (.iconst 0, 1) := by decide +kernel
theorem dX11_set_17 : decode cX11_set 17 = .ok (.aload_n 0, 1) := by decide +kernel
theorem dX11_set_18 : decode cX11_set 18 = .ok (.getfield 36, 3) := by decide +kernel
theorem dX11_set_21 : decode cX11_set 21 = .ok (.iload_n 1, 1) := by decide +kernel
theorem dX11_set_22 : decode cX11_set 22 = .ok (.iaload, 1) := by decide +kernel
theorem dX11_set_23 : decode cX11_set 23 = .ok (.iconst 1, 1) := by decide +kernel
theorem dX11_set_24 : decode cX11_set 24 = .ok (.isub, 1) := by decide +kernel
theorem dX11_set_25 : decode cX11_set 25 = .ok (.invokestatic 46, 3) := by decide +kernel
theorem dX11_set_28 : decode cX11_set 28 = .ok (.ifCond .ne 6, 3) := by decide +kernel
theorem dX11_set_31 : decode cX11_set 31 = .ok (.bipush (-13), 2) := by decide +kernel
theorem dX11_set_33 : decode cX11_set 33 = .ok (.ireturn, 1) := by decide +kernel
theorem dX11_set_34 : decode cX11_set 34 = .ok (.aload_n 0, 1) := by decide +kernel
theorem dX11_set_35 : decode cX11_set 35 = .ok (.getfield 39, 3) := by decide +kernel
theorem dX11_set_38 : decode cX11_set 38 = .ok (.bipush 40, 2) := by decide +kernel
theorem dX11_set_40 : decode cX11_set 40 = .ok (.iload_n 1, 1) := by decide +kernel
theorem dX11_set_41 : decode cX11_set 41 = .ok (.imul, 1) := by decide +kernel
theorem dX11_set_42 : decode cX11_set 42 = .ok (.iload_n 2, 1) := by decide +kernel
theorem dX11_set_43 : decode cX11_set 43 = .ok (.iadd, 1) := by decide +kernel
theorem dX11_set_44 : decode cX11_set 44 = .ok (.iload_n 3, 1) := by decide +kernel
theorem dX11_set_45 : decode cX11_set 45 = .ok (.iastore, 1) := by decide +kernel
theorem dX11_set_46 : decode cX11_set 46 = .ok (.iconst 1, 1) := by decide +kernel
theorem dX11_set_47 : decode cX11_set 47 = .ok (.ireturn, 1) := by decide +kernel
theorem dX11_get_0 : decode cX11_get 0 = .ok (.aload_n 0, 1) := by decide +kernel
theorem dX11_get_1 : decode cX11_get 1 = .ok (.iload_n 1, 1) := by decide +kernel
theorem dX11_get_2 : decode cX11_get 2 = .ok (.invokevirtual 307, 3) := by decide +kernel
theorem dX11_get_5 : decode cX11_get 5 = .ok (.ifCond .ne 19, 3) := by decide +kernel
theorem dX11_get_8 : decode cX11_get 8 = .ok (.iload_n 2, 1) := by decide +kernel
theorem dX11_get_9 : decode cX11_get 9 = .ok (.iconst 0, 1) := by decide +kernel
theorem dX11_get_10 : decode cX11_get 10 = .ok (.aload_n 0, 1) := by decide +kernel
theorem dX11_get_11 : decode cX11_get 11 = .ok (.getfield 36, 3) := by decide +kernel
theorem dX11_get_14 : decode cX11_get 14 = .ok (.iload_n 1, 1) := by decide +kernel
theorem dX11_get_15 : decode cX11_get 15 = .ok (.iaload, 1) := by decide +kernel
theorem dX11_get_16 : decode cX11_get 16 = .ok (.iconst 1, 1) := by decide +kernel
theorem dX11_get_17 : decode cX11_get 17 = .ok (.isub, 1) := by decide +kernel
theorem dX11_get_18 : decode cX11_get 18 = .ok (.invokestatic 46, 3) := by decide +kernel
theorem dX11_get_21 : decode cX11_get 21 = .ok (.ifCond .ne 9, 3) := by decide +kernel
theorem dX11_get_24 : decode cX11_get 24 = .ok (.ldc2_w 244, 3) := by decide +kernel
theorem dX11_get_27 : decode cX11_get 27 = .ok (.goto 15, 3) := by decide +kernel
theorem dX11_get_30 : decode cX11_get 30 = .ok (.aload_n 0, 1) := by decide +kernel
theorem dX11_get_31 : decode cX11_get 31 = .ok (.getfield 39, 3) := by decide +kernel
theorem dX11_get_34 : decode cX11_get 34 = .ok (.bipush 40, 2) := by decide +kernel
theorem dX11_get_36 : decode cX11_get 36 = .ok (.iload_n 1, 1) := by decide +kernel
theorem dX11_get_37 : decode cX11_get 37 = .ok (.imul, 1) := by decide +kernel
theorem dX11_get_38 : decode cX11_get 38 = .ok (.iload_n 2, 1) := by decide +kernel
theorem dX11_get_39 : decode cX11_get 39 = .ok (.iadd, 1) := by decide +kernel
theorem dX11_get_40 : decode cX11_get 40 = .ok (.iaload, 1) := by decide +kernel
theorem dX11_get_41 : decode cX11_get 41 = .ok (.i2l, 1) := by decide +kernel
theorem dX11_get_42 : decode cX11_get 42 = .ok (.lreturn, 1) := by decide +kernel
theorem dX11_copy_0 : decode cX11_copy 0 = .ok (.iload_n 1, 1) := by decide +kernel
theorem dX11_copy_1 : decode cX11_copy 1 = .ok (.invokestatic 304, 3) := by decide +kernel
theorem dX11_copy_4 : decode cX11_copy 4 = .ok (.ifCond .eq 10, 3) := by decide +kernel
theorem dX11_copy_7 : decode cX11_copy 7 = .ok (.iload_n 3, 1) := by decide +kernel
theorem dX11_copy_8 : decode cX11_copy 8 = .ok (.invokestatic 304, 3) := by decide +kernel
theorem dX11_copy_11 : decode cX11_copy 11 = .ok (.ifCond .ne 5, 3) := by decide +kernel
theorem dX11_copy_14 : decode cX11_copy 14 = .ok (.iconst (-1), 1) := by decide +kernel
theorem dX11_copy_15 : decode cX11_copy 15 = .ok (.ireturn, 1) := by decide +kernel
theorem dX11_copy_16 : decode cX11_copy 16 = .ok (.aload_n 0, 1) := by decide +kernel
theorem dX11_copy_17 : decode cX11_copy 17 = .ok (.getfield 36, 3) := by decide +kernel
theorem dX11_copy_20 : decode cX11_copy 20 = .ok (.iload_n 1, 1) := by decide +kernel
theorem dX11_copy_21 : decode cX11_copy 21 = .ok (.iaload, 1) := by decide +kernel
theorem dX11_copy_22 : decode cX11_copy 22 = .ok (.ifCond .lt 12, 3) := by decide +kernel
theorem dX11_copy_25 : decode cX11_copy 25 = .ok (.aload_n 0, 1) := by decide +kernel
theorem dX11_copy_26 : decode cX11_copy 26 = .ok (.getfield 36, 3) := by decide +kernel
theorem dX11_copy_29 : decode cX11_copy 29 = .ok (.iload_n 3, 1) := by decide +kernel
theorem dX11_copy_30 : decode cX11_copy 30 = .ok (.iaload, 1) := by decide +kernel
theorem dX11_copy_31 : decode cX11_copy 31 = .ok (.ifCond .ge 6, 3) := by decide +kernel
theorem dX11_copy_34 : decode cX11_copy 34 = .ok (.bipush (-11), 2) := by decide +kernel
theorem dX11_copy_36 : decode cX11_copy 36 = .ok (.ireturn, 1) := by decide +kernel
theorem dX11_copy_37 : decode cX11_copy 37 = .ok (.iload 5, 2) := by decide +kernel
theorem dX11_copy_39 : decode cX11_copy 39 = .ok (.ifCond .lt 39, 3) := by decide +kernel
theorem dX11_copy_42 : decode cX11_copy 42 = .ok (.iload_n 2, 1) := by decide +kernel
theorem dX11_copy_43 : decode cX11_copy 43 = .ok (.ifCond .lt 35, 3) := by decide +kernel
theorem dX11_copy_46 : decode cX11_copy 46 = .ok (.iload 4, 2) := by decide +kernel
theorem dX11_copy_48 : decode cX11_copy 48 = .ok (.ifCond .lt 30, 3) := by decide +kernel
theorem dX11_copy_51 : decode cX11_copy 51 = .ok (.iload 5, 2) := by decide +kernel
theorem dX11_copy_53 : decode cX11_copy 53 = .ok (.aload_n 0, 1) := by decide +kernel
theorem dX11_copy_54 : decode cX11_copy 54 = .ok (.getfield 36, 3) := by decide +kernel
theorem dX11_copy_57 : decode cX11_copy 57 = .ok (.iload_n 1, 1) := by decide +kernel
theorem dX11_copy_58 : decode cX11_copy 58 = .ok (.iaload, 1) := by decide +kernel
theorem dX11_copy_59 : decode cX11_copy 59 = .ok (.iload_n 2, 1) := by decide +kernel
theorem dX11_copy_60 : decode cX11_copy 60 = .ok (.isub, 1) := by decide +kernel
theorem dX11_copy_61 : decode cX11_copy 61 = .ok (.if_icmp .gt 17, 3) := by decide +kernel
theorem dX11_copy_64 : decode cX11_copy 64 = .ok (.iload 5, 2) := by decide +kernel
theorem dX11_copy_66 : decode cX11_copy 66 = .ok (.aload_n 0, 1) := by decide +kernel
theorem dX11_copy_67 : decode cX11_copy 67 = .ok (.getfield 36, 3) := by decide +kernel
theorem dX11_copy_70 : decode cX11_copy 70 = .ok (.iload_n 3, 1) := by decide +kernel
theorem dX11_copy_71 : decode cX11_copy 71 = .ok (.iaload, 1) := by decide +kernel
theorem dX11_copy_72 : decode cX11_copy 72 = .ok (.iload 4, 2) := by decide +kernel
theorem dX11_copy_74 : decode cX11_copy 74 = .ok (.isub, 1) := by decide +kernel
theorem dX11_copy_75 : decode cX11_copy 75 = .ok (.if_icmp .le 6, 3) := by decide +kernel
theorem dX11_copy_78 : decode cX11_copy 78 = .ok (.bipush (-13), 2) := by decide +kernel
theorem dX11_copy_80 : decode cX11_copy 80 = .ok (.ireturn, 1) := by decide +kernel
theorem dX11_copy_81 : decode cX11_copy 81 = .ok (.iconst 0, 1) := by decide +kernel
theorem dX11_copy_82 : decode cX11_copy 82 = .ok (.istore 6, 2) := by decide +kernel
theorem dX11_copy_84 : decode cX11_copy 84 = .ok (.iload 6, 2) := by decide +kernel
theorem dX11_copy_86 : decode cX11_copy 86 = .ok (.iload 5, 2) := by decide +kernel
theorem dX11_copy_88 : decode cX11_copy 88 = .ok (.if_icmp .ge 58, 3) := by decide +kernel
theorem dX11_copy_91 : decode cX11_copy 91 = .ok (.iload_n 2, 1) := by decide +kernel
theorem dX11_copy_92 : decode cX11_copy 92 = .ok (.iload 4, 2) := by decide +kernel
theorem dX11_copy_94 : decode cX11_copy 94 = .ok (.if_icmp .le 8, 3) := by decide +kernel
theorem dX11_copy_97 : decode cX11_copy 97 = .ok (.iload 6, 2) := by decide +kernel
theorem dX11_copy_99 : decode cX11_copy 99 = .ok (.goto 10, 3) := by decide +kernel
theorem dX11_copy_102 : decode cX11_copy 102 = .ok (.iload 5, 2) := by decide +kernel
theorem dX11_copy_104 : decode cX11_copy 104 = .ok (.iconst 1, 1) := by decide +kernel
theorem dX11_copy_105 : decode cX11_copy 105 = .ok (.isub, 1) := by decide +kernel
theorem dX11_copy_106 : decode cX11_copy 106 = .ok (.iload 6, 2) := by decide +kernel
theorem dX11_copy_108 : decode cX11_copy 108 = .ok (.isub, 1) := by decide +kernel
theorem dX11_copy_109 : decode cX11_copy 109 = .ok (.istore 7, 2) := by decide +kernel
theorem dX11_copy_111 : decode cX11_copy 111 = .ok (.aload_n 0, 1) := by decide +kernel
theorem dX11_copy_112 : decode cX11_copy 112 = .ok (.getfield 39, 3) := by decide +kernel
theorem dX11_copy_115 : decode cX11_copy 115 = .ok (.bipush 40, 2) := by decide +kernel
theorem dX11_copy_117 : decode cX11_copy 117 = .ok (.iload_n 3, 1) := by decide +kernel
theorem dX11_copy_118 : decode cX11_copy 118 = .ok (.imul, 1) := by decide +kernel
theorem dX11_copy_119 : decode cX11_copy 119 = .ok (.iload 4, 2) := by decide +kernel
theorem dX11_copy_121 : decode cX11_copy 121 = .ok (.iadd, 1) := by decide +kernel
theorem dX11_copy_122 : decode cX11_copy 122 = .ok (.iload 7, 2) := by decide +kernel
theorem dX11_copy_124 : decode cX11_copy 124 = .ok (.iadd, 1) := by decide +kernel
theorem dX11_copy_125 : decode cX11_copy 125 = .ok (.aload_n 0, 1) := by decide +kernel
theorem dX11_copy_126 : decode cX11_copy 126 = .ok (.getfield 39, 3) := by decide +kernel
theorem dX11_copy_129 : decode cX11_copy 129 = .ok (.bipush 40, 2) := by decide +kernel
theorem dX11_copy_131 : decode cX11_copy 131 = .ok (.iload_n 1, 1) := by decide +kernel
theorem dX11_copy_132 : decode cX11_copy 132 = .ok (.imul, 1) := by decide +kernel
theorem dX11_copy_133 : decode cX11_copy 133 = .ok (.iload_n 2, 1) := by decide +kernel
theorem dX11_copy_134 : decode cX11_copy 134 = .ok (.iadd, 1) := by decide +kernel
theorem dX11_copy_135 : decode cX11_copy 135 = .ok (.iload 7, 2) := by decide +kernel
theorem dX11_copy_137 : decode cX11_copy 137 = .ok (.iadd, 1) := by decide +kernel
theorem dX11_copy_138 : decode cX11_copy 138 = .ok (.iaload, 1) := by decide +kernel
theorem dX11_copy_139 : decode cX11_copy 139 = .ok (.iastore, 1) := by decide +kernel
theorem dX11_copy_140 : decode cX11_copy 140 = .ok (.iinc 6 1, 3) := by decide +kernel
theorem dX11_copy_143 : decode cX11_copy 143 = .ok (.goto (-59), 3) := by decide +kernel
theorem dX11_copy_146 : decode cX11_copy 146 = .ok (.iload 5, 2) := by decide +kernel
theorem dX11_copy_148 : decode cX11_copy 148 = .ok (.ireturn, 1) := by decide +kernel
theorem dX11_lay_0 : decode cX11_lay 0 = .ok (.aload_n 0, 1) := by decide +kernel
theorem dX11_lay_1 : decode cX11_lay 1 = .ok (.iload_n 1, 1) := by decide +kernel
theorem dX11_lay_2 : decode cX11_lay 2 = .ok (.invokevirtual 307, 3) := by decide +kernel
theorem dX11_lay_5 : decode cX11_lay 5 = .ok (.istore_n 3, 1) := by decide +kernel
theorem dX11_lay_6 : decode cX11_lay 6 = .ok (.iload_n 3, 1) := by decide +kernel
theorem dX11_lay_7 : decode cX11_lay 7 = .ok (.ifCond .eq 5, 3) := by decide +kernel
theorem dX11_lay_10 : decode cX11_lay 10 = .ok (.iload_n 3, 1) := by decide +kernel
theorem dX11_lay_11 : decode cX11_lay 11 = .ok (.ireturn, 1) := by decide +kernel
theorem dX11_lay_12 : decode cX11_lay 12 = .ok (.iconst 0, 1) := by decide +kernel
theorem dX11_lay_13 : decode cX11_lay 13 = .ok (.istore 4, 2) := by decide +kernel
theorem dX11_lay_15 : decode cX11_lay 15 = .ok (.iload 4, 2) := by decide +kernel
theorem dX11_lay_17 : decode cX11_lay 17 = .ok (.aload_n 0, 1) := by decide +kernel
theorem dX11_lay_18 : decode cX11_lay 18 = .ok (.getfield 11, 3) := by decide +kernel
theorem dX11_lay_21 : decode cX11_lay 21 = .ok (.iconst 2, 1) := by decide +kernel
theorem dX11_lay_22 : decode cX11_lay 22 = .ok (.iaload, 1) := by decide +kernel
theorem dX11_lay_23 : decode cX11_lay 23 = .ok (.if_icmp .ge 54, 3) := by decide +kernel
theorem dX11_lay_26 : decode cX11_lay 26 = .ok (.iload_n 2, 1) := by decide +kernel
theorem dX11_lay_27 : decode cX11_lay 27 = .ok (.ifCond .lt 16, 3) := by decide +kernel
theorem dX11_lay_30 : decode cX11_lay 30 = .ok (.iload 4, 2) := by decide +kernel
theorem dX11_lay_32 : decode cX11_lay 32 = .ok (.aload_n 0, 1) := by decide +kernel
theorem dX11_lay_33 : decode cX11_lay 33 = .ok (.getfield 36, 3) := by decide +kernel
theorem dX11_lay_36 : decode cX11_lay 36 = .ok (.iload_n 1, 1) := by decide +kernel
theorem dX11_lay_37 : decode cX11_lay 37 = .ok (.iaload, 1) := by decide +kernel
theorem dX11_lay_38 : decode cX11_lay 38 = .ok (.iload_n 2, 1) := by decide +kernel
theorem dX11_lay_39 : decode cX11_lay 39 = .ok (.isub, 1) := by decide +kernel
theorem dX11_lay_40 : decode cX11_lay 40 = .ok (.if_icmp .lt 6, 3) := by decide +kernel
theorem dX11_lay_43 : decode cX11_lay 43 = .ok (.bipush (-13), 2) := by decide +kernel
theorem dX11_lay_45 : decode cX11_lay 45 = .ok (.ireturn, 1) := by decide +kernel
theorem dX11_lay_46 : decode cX11_lay 46 = .ok (.aload_n 0, 1) := by decide +kernel
theorem dX11_lay_47 : decode cX11_lay 47 = .ok (.getfield 39, 3) := by decide +kernel
theorem dX11_lay_50 : decode cX11_lay 50 = .ok (.bipush 40, 2) := by decide +kernel
theorem dX11_lay_52 : decode cX11_lay 52 = .ok (.iload_n 1, 1) := by decide +kernel
theorem dX11_lay_53 : decode cX11_lay 53 = .ok (.imul, 1) := by decide +kernel
theorem dX11_lay_54 : decode cX11_lay 54 = .ok (.iload_n 2, 1) := by decide +kernel
theorem dX11_lay_55 : decode cX11_lay 55 = .ok (.iadd, 1) := by decide +kernel
theorem dX11_lay_56 : decode cX11_lay 56 = .ok (.iload 4, 2) := by decide +kernel
theorem dX11_lay_58 : decode cX11_lay 58 = .ok (.iadd, 1) := by decide +kernel
theorem dX11_lay_59 : decode cX11_lay 59 = .ok (.aload_n 0, 1) := by decide +kernel
theorem dX11_lay_60 : decode cX11_lay 60 = .ok (.getfield 11, 3) := by decide +kernel
theorem dX11_lay_63 : decode cX11_lay 63 = .ok (.sipush 1518, 3) := by decide +kernel
theorem dX11_lay_66 : decode cX11_lay 66 = .ok (.iload 4, 2) := by decide +kernel
theorem dX11_lay_68 : decode cX11_lay 68 = .ok (.iadd, 1) := by decide +kernel
theorem dX11_lay_69 : decode cX11_lay 69 = .ok (.iaload, 1) := by decide +kernel
theorem dX11_lay_70 : decode cX11_lay 70 = .ok (.iastore, 1) := by decide +kernel
theorem dX11_lay_71 : decode cX11_lay 71 = .ok (.iinc 4 1, 3) := by decide +kernel
theorem dX11_lay_74 : decode cX11_lay 74 = .ok (.goto (-59), 3) := by decide +kernel
theorem dX11_lay_77 : decode cX11_lay 77 = .ok (.aload_n 0, 1) := by decide +kernel
theorem dX11_lay_78 : decode cX11_lay 78 = .ok (.getfield 11, 3) := by decide +kernel
theorem dX11_lay_81 : decode cX11_lay 81 = .ok (.iconst 2, 1) := by decide +kernel
theorem dX11_lay_82 : decode cX11_lay 82 = .ok (.iaload, 1) := by decide +kernel
theorem dX11_lay_83 : decode cX11_lay 83 = .ok (.ireturn, 1) := by decide +kernel
theorem dX11_judge_0 : decode cX11_judge 0 = .ok (.aload_n 0, 1) := by decide +kernel
theorem dX11_judge_1 : decode cX11_judge 1 = .ok (.iload_n 1, 1) := by decide +kernel
theorem dX11_judge_2 : decode cX11_judge 2 = .ok (.invokevirtual 307, 3) := by decide +kernel
theorem dX11_judge_5 : decode cX11_judge 5 = .ok (.istore_n 3, 1) := by decide +kernel
theorem dX11_judge_6 : decode cX11_judge 6 = .ok (.iload_n 3, 1) := by decide +kernel
theorem dX11_judge_7 : decode cX11_judge 7 = .ok (.ifCond .eq 5, 3) := by decide +kernel
theorem dX11_judge_10 : decode cX11_judge 10 = .ok (.iload_n 3, 1) := by decide +kernel
theorem dX11_judge_11 : decode cX11_judge 11 = .ok (.ireturn, 1) := by decide +kernel
theorem dX11_judge_12 : decode cX11_judge 12 = .ok (.iconst 0, 1) := by decide +kernel
theorem dX11_judge_13 : decode cX11_judge 13 = .ok (.istore 4, 2) := by decide +kernel
theorem dX11_judge_15 : decode cX11_judge 15 = .ok (.iload 4, 2) := by decide +kernel
theorem dX11_judge_17 : decode cX11_judge 17 = .ok (.aload_n 0, 1) := by decide +kernel
theorem dX11_judge_18 : decode cX11_judge 18 = .ok (.getfield 11, 3) := by decide +kernel
theorem dX11_judge_21 : decode cX11_judge 21 = .ok (.iconst 2, 1) := by decide +kernel
theorem dX11_judge_22 : decode cX11_judge 22 = .ok (.iaload, 1) := by decide +kernel
theorem dX11_judge_23 : decode cX11_judge 23 = .ok (.if_icmp .ge 64, 3) := by decide +kernel
theorem dX11_judge_26 : decode cX11_judge 26 = .ok (.iload_n 2, 1) := by decide +kernel
theorem dX11_judge_27 : decode cX11_judge 27 = .ok (.ifCond .lt 16, 3) := by decide +kernel
theorem dX11_judge_30 : decode cX11_judge 30 = .ok (.iload 4, 2) := by decide +kernel
theorem dX11_judge_32 : decode cX11_judge 32 = .ok (.aload_n 0, 1) := by decide +kernel
theorem dX11_judge_33 : decode cX11_judge 33 = .ok (.getfield 36, 3) := by decide +kernel
theorem dX11_judge_36 : decode cX11_judge 36 = .ok (.iload_n 1, 1) := by decide +kernel
theorem dX11_judge_37 : decode cX11_judge 37 = .ok (.iaload, 1) := by decide +kernel
theorem dX11_judge_38 : decode cX11_judge 38 = .ok (.iload_n 2, 1) := by decide +kernel
theorem dX11_judge_39 : decode cX11_judge 39 = .ok (.isub, 1) := by decide +kernel
theorem dX11_judge_40 : decode cX11_judge 40 = .ok (.if_icmp .lt 10, 3) := by decide +kernel
theorem dX11_judge_43 : decode cX11_judge 43 = .ok (.sipush 200, 3) := by decide +kernel
theorem dX11_judge_46 : decode cX11_judge 46 = .ok (.iload 4, 2) := by decide +kernel
theorem dX11_judge_48 : decode cX11_judge 48 = .ok (.iadd, 1) := by decide +kernel
theorem dX11_judge_49 : decode cX11_judge 49 = .ok (.ireturn, 1) := by decide +kernel
theorem dX11_judge_50 : decode cX11_judge 50 = .ok (.aload_n 0, 1) := by decide +kernel
theorem dX11_judge_51 : decode cX11_judge 51 = .ok (.getfield 39, 3) := by decide +kernel
theorem dX11_judge_54 : decode cX11_judge 54 = .ok (.bipush 40, 2) := by decide +kernel
theorem dX11_judge_56 : decode cX11_judge 56 = .ok (.iload_n 1, 1) := by decide +kernel
theorem dX11_judge_57 : decode cX11_judge 57 = .ok (.imul, 1) := by decide +kernel
theorem dX11_judge_58 : decode cX11_judge 58 = .ok (.iload_n 2, 1) := by decide +kernel
theorem dX11_judge_59 : decode cX11_judge 59 = .ok (.iadd, 1) := by decide +kernel
theorem dX11_judge_60 : decode cX11_judge 60 = .ok (.iload 4, 2) := by decide +kernel
theorem dX11_judge_62 : decode cX11_judge 62 = .ok (.iadd, 1) := by decide +kernel
theorem dX11_judge_63 : decode cX11_judge 63 = .ok (.iaload, 1) := by decide +kernel
theorem dX11_judge_64 : decode cX11_judge 64 = .ok (.aload_n 0, 1) := by decide +kernel
theorem dX11_judge_65 : decode cX11_judge 65 = .ok (.getfield 11, 3) := by decide +kernel
theorem dX11_judge_68 : decode cX11_judge 68 = .ok (.sipush 1518, 3) := by decide +kernel
theorem dX11_judge_71 : decode cX11_judge 71 = .ok (.iload 4, 2) := by decide +kernel
theorem dX11_judge_73 : decode cX11_judge 73 = .ok (.iadd, 1) := by decide +kernel
theorem dX11_judge_74 : decode cX11_judge 74 = .ok (.iaload, 1) := by decide +kernel
theorem dX11_judge_75 : decode cX11_judge 75 = .ok (.if_icmp .eq 6, 3) := by decide +kernel
theorem dX11_judge_78 : decode cX11_judge 78 = .ok (.iload 4, 2) := by decide +kernel
theorem dX11_judge_80 : decode cX11_judge 80 = .ok (.ireturn, 1) := by decide +kernel
theorem dX11_judge_81 : decode cX11_judge 81 = .ok (.iinc 4 1, 3) := by decide +kernel
theorem dX11_judge_84 : decode cX11_judge 84 = .ok (.goto (-69), 3) := by decide +kernel
theorem dX11_judge_87 : decode cX11_judge 87 = .ok (.bipush (-5), 2) := by decide +kernel
theorem dX11_judge_89 : decode cX11_judge 89 = .ok (.ireturn, 1) := by decide +kernel
theorem dX11_image_0 : decode cX11_image 0 = .ok (.aload_n 0, 1) := by decide +kernel
theorem dX11_image_1 : decode cX11_image 1 = .ok (.getfield 11, 3) := by decide +kernel
theorem dX11_image_4 : decode cX11_image 4 = .ok (.aload_n 0, 1) := by decide +kernel
theorem dX11_image_5 : decode cX11_image 5 = .ok (.getfield 15, 3) := by decide +kernel
theorem dX11_image_8 : decode cX11_image 8 = .ok (.invokestatic 279, 3) := by decide +kernel
theorem dX11_image_11 : decode cX11_image 11 = .ok (.aload_n 0, 1) := by decide +kernel
theorem dX11_image_12 : decode cX11_image 12 = .ok (.iconst 1, 1) := by decide +kernel
theorem dX11_image_13 : decode cX11_image 13 = .ok (.putfield 310, 3) := by decide +kernel
theorem dX11_image_16 : decode cX11_image 16 = .ok (.aload_n 0, 1) := by decide +kernel
theorem dX11_image_17 : decode cX11_image 17 = .ok (.invokevirtual 276, 3) := by decide +kernel
theorem dX11_image_20 : decode cX11_image 20 = .ok (.ireturn, 1) := by decide +kernel
theorem dX11_undo_0 : decode cX11_undo 0 = .ok (.aload_n 0, 1) := by decide +kernel
theorem dX11_undo_1 : decode cX11_undo 1 = .ok (.getfield 310, 3) := by decide +kernel
theorem dX11_undo_4 : decode cX11_undo 4 = .ok (.ifCond .ne 6, 3) := by decide +kernel
theorem dX11_undo_7 : decode cX11_undo 7 = .ok (.bipush (-3), 2) := by decide +kernel
theorem dX11_undo_9 : decode cX11_undo 9 = .ok (.ireturn, 1) := by decide +kernel
theorem dX11_undo_10 : decode cX11_undo 10 = .ok (.aload_n 0, 1) := by decide +kernel
theorem dX11_undo_11 : decode cX11_undo 11 = .ok (.getfield 15, 3) := by decide +kernel
theorem dX11_undo_14 : decode cX11_undo 14 = .ok (.aload_n 0, 1) := by decide +kernel
theorem dX11_undo_15 : decode cX11_undo 15 = .ok (.getfield 11, 3) := by decide +kernel
theorem dX11_undo_18 : decode cX11_undo 18 = .ok (.invokestatic 279, 3) := by decide +kernel
theorem dX11_undo_21 : decode cX11_undo 21 = .ok (.aload_n 0, 1) := by decide +kernel
theorem dX11_undo_22 : decode cX11_undo 22 = .ok (.invokevirtual 276, 3) := by decide +kernel
theorem dX11_undo_25 : decode cX11_undo 25 = .ok (.ireturn, 1) := by decide +kernel
theorem dL_law_0 : decode cL_law 0 = .ok (.new 7, 3) := by decide +kernel
theorem dL_law_3 : decode cL_law 3 = .ok (.dup, 1) := by decide +kernel
theorem dL_law_4 : decode cL_law 4 = .ok (.invokespecial 9, 3) := by decide +kernel
theorem dL_law_7 : decode cL_law 7 = .ok (.astore_n 1, 1) := by decide +kernel
theorem dL_law_8 : decode cL_law 8 = .ok (.new 10, 3) := by decide +kernel
theorem dL_law_11 : decode cL_law 11 = .ok (.dup, 1) := by decide +kernel
theorem dL_law_12 : decode cL_law 12 = .ok (.invokespecial 12, 3) := by decide +kernel
theorem dL_law_15 : decode cL_law 15 = .ok (.astore_n 2, 1) := by decide +kernel
theorem dL_law_16 : decode cL_law 16 = .ok (.iconst 0, 1) := by decide +kernel
theorem dL_law_17 : decode cL_law 17 = .ok (.istore_n 3, 1) := by decide +kernel
theorem dL_law_18 : decode cL_law 18 = .ok (.iload_n 3, 1) := by decide +kernel
theorem dL_law_19 : decode cL_law 19 = .ok (.aload_n 0, 1) := by decide +kernel
theorem dL_law_20 : decode cL_law 20 = .ok (.arraylength, 1) := by decide +kernel
theorem dL_law_21 : decode cL_law 21 = .ok (.bipush 6, 2) := by decide +kernel
theorem dL_law_23 : decode cL_law 23 = .ok (.isub, 1) := by decide +kernel
theorem dL_law_24 : decode cL_law 24 = .ok (.if_icmp .gt 1418, 3) := by decide +kernel
theorem dL_law_27 : decode cL_law 27 = .ok (.aload_n 0, 1) := by decide +kernel
theorem dL_law_28 : decode cL_law 28 = .ok (.iload_n 3, 1) := by decide +kernel
theorem dL_law_29 : decode cL_law 29 = .ok (.iaload, 1) := by decide +kernel
theorem dL_law_30 : decode cL_law 30 = .ok (.bipush 63, 2) := by decide +kernel
theorem dL_law_32 : decode cL_law 32 = .ok (.iand, 1) := by decide +kernel
theorem dL_law_33 : decode cL_law 33 = .ok (.tableswitch 1403 0 43 #[191, 214, 227, 250, 273, 296, 319, 342, 365, 388, 421, 454, 477, 510, 543, 566, 599, 632, 665, 678, 691, 714, 737, 770, 803, 846, 869, 912, 935, 968, 981, 1004, 1027, 1060, 1093, 1116, 1139, 1172, 1215, 1248, 1311, 1344, 1377, 1390], 191) := by decide +kernel
theorem dL_law_224 : decode cL_law 224 = .ok (.aload_n 1, 1) := by decide +kernel
theorem dL_law_225 : decode cL_law 225 = .ok (.aload_n 0, 1) := by decide +kernel
theorem dL_law_226 : decode cL_law 226 = .ok (.iload_n 3, 1) := by decide +kernel
theorem dL_law_227 : decode cL_law 227 = .ok (.iconst 1, 1) := by decide +kernel
theorem dL_law_228 : decode cL_law 228 = .ok (.iadd, 1) := by decide +kernel
theorem dL_law_229 : decode cL_law 229 = .ok (.iaload, 1) := by decide +kernel
theorem dL_law_230 : decode cL_law 230 = .ok (.invokevirtual 13, 3) := by decide +kernel
theorem dL_law_233 : decode cL_law 233 = .ok (.pop, 1) := by decide +kernel
theorem dL_law_234 : decode cL_law 234 = .ok (.aload_n 2, 1) := by decide +kernel
theorem dL_law_235 : decode cL_law 235 = .ok (.aload_n 0, 1) := by decide +kernel
theorem dL_law_236 : decode cL_law 236 = .ok (.iload_n 3, 1) := by decide +kernel
theorem dL_law_237 : decode cL_law 237 = .ok (.iconst 1, 1) := by decide +kernel
theorem dL_law_238 : decode cL_law 238 = .ok (.iadd, 1) := by decide +kernel
theorem dL_law_239 : decode cL_law 239 = .ok (.iaload, 1) := by decide +kernel
theorem dL_law_240 : decode cL_law 240 = .ok (.invokevirtual 17, 3) := by decide +kernel
theorem dL_law_243 : decode cL_law 243 = .ok (.pop, 1) := by decide +kernel
theorem dL_law_244 : decode cL_law 244 = .ok (.goto 1192, 3) := by decide +kernel
theorem dL_law_247 : decode cL_law 247 = .ok (.aload_n 1, 1) := by decide +kernel
theorem dL_law_248 : decode cL_law 248 = .ok (.invokevirtual 18, 3) := by decide +kernel
theorem dL_law_251 : decode cL_law 251 = .ok (.pop, 1) := by decide +kernel
theorem dL_law_252 : decode cL_law 252 = .ok (.aload_n 2, 1) := by decide +kernel
theorem dL_law_253 : decode cL_law 253 = .ok (.invokevirtual 22, 3) := by decide +kernel
theorem dL_law_256 : decode cL_law 256 = .ok (.pop, 1) := by decide +kernel
theorem dL_law_257 : decode cL_law 257 = .ok (.goto 1179, 3) := by decide +kernel
theorem dL_law_260 : decode cL_law 260 = .ok (.aload_n 1, 1) := by decide +kernel
theorem dL_law_261 : decode cL_law 261 = .ok (.aload_n 0, 1) := by decide +kernel
theorem dL_law_262 : decode cL_law 262 = .ok (.iload_n 3, 1) := by decide +kernel
theorem dL_law_263 : decode cL_law 263 = .ok (.iconst 1, 1) := by decide +kernel
theorem dL_law_264 : decode cL_law 264 = .ok (.iadd, 1) := by decide +kernel
theorem dL_law_265 : decode cL_law 265 = .ok (.iaload, 1) := by decide +kernel
theorem dL_law_266 : decode cL_law 266 = .ok (.invokevirtual 23, 3) := by decide +kernel
theorem dL_law_269 : decode cL_law 269 = .ok (.pop, 1) := by decide +kernel
theorem dL_law_270 : decode cL_law 270 = .ok (.aload_n 2, 1) := by decide +kernel
theorem dL_law_271 : decode cL_law 271 = .ok (.aload_n 0, 1) := by decide +kernel
theorem dL_law_272 : decode cL_law 272 = .ok (.iload_n 3, 1) := by decide +kernel
theorem dL_law_273 : decode cL_law 273 = .ok (.iconst 1, 1) := by decide +kernel
theorem dL_law_274 : decode cL_law 274 = .ok (.iadd, 1) := by decide +kernel
theorem dL_law_275 : decode cL_law 275 = .ok (.iaload, 1) := by decide +kernel
theorem dL_law_276 : decode cL_law 276 = .ok (.invokevirtual 26, 3) := by decide +kernel
theorem dL_law_279 : decode cL_law 279 = .ok (.pop, 1) := by decide +kernel
theorem dL_law_280 : decode cL_law 280 = .ok (.goto 1156, 3) := by decide +kernel
theorem dL_law_283 : decode cL_law 283 = .ok (.aload_n 1, 1) := by decide +kernel
theorem dL_law_284 : decode cL_law 284 = .ok (.aload_n 0, 1) := by decide +kernel
theorem dL_law_285 : decode cL_law 285 = .ok (.iload_n 3, 1) := by decide +kernel
theorem dL_law_286 : decode cL_law 286 = .ok (.iconst 1, 1) := by decide +kernel
theorem dL_law_287 : decode cL_law 287 = .ok (.iadd, 1) := by decide +kernel
theorem dL_law_288 : decode cL_law 288 = .ok (.iaload, 1) := by decide +kernel
theorem dL_law_289 : decode cL_law 289 = .ok (.invokevirtual 27, 3) := by decide +kernel
theorem dL_law_292 : decode cL_law 292 = .ok (.pop, 1) := by decide +kernel
theorem dL_law_293 : decode cL_law 293 = .ok (.aload_n 2, 1) := by decide +kernel
theorem dL_law_294 : decode cL_law 294 = .ok (.aload_n 0, 1) := by decide +kernel
theorem dL_law_295 : decode cL_law 295 = .ok (.iload_n 3, 1) := by decide +kernel
theorem dL_law_296 : decode cL_law 296 = .ok (.iconst 1, 1) := by decide +kernel
theorem dL_law_297 : decode cL_law 297 = .ok (.iadd, 1) := by decide +kernel
theorem dL_law_298 : decode cL_law 298 = .ok (.iaload, 1) := by decide +kernel
theorem dL_law_299 : decode cL_law 299 = .ok (.invokevirtual 30, 3) := by decide +kernel
theorem dL_law_302 : decode cL_law 302 = .ok (.pop, 1) := by decide +kernel
theorem dL_law_303 : decode cL_law 303 = .ok (.goto 1133, 3) := by decide +kernel
theorem dL_law_306 : decode cL_law 306 = .ok (.aload_n 1, 1) := by decide +kernel
theorem dL_law_307 : decode cL_law 307 = .ok (.aload_n 0, 1) := by decide +kernel
theorem dL_law_308 : decode cL_law 308 = .ok (.iload_n 3, 1) := by decide +kernel
theorem dL_law_309 : decode cL_law 309 = .ok (.iconst 1, 1) := by decide +kernel
theorem dL_law_310 : decode cL_law 310 = .ok (.iadd, 1) := by decide +kernel
theorem dL_law_311 : decode cL_law 311 = .ok (.iaload, 1) := by decide +kernel
theorem dL_law_312 : decode cL_law 312 = .ok (.invokevirtual 31, 3) := by decide +kernel
theorem dL_law_315 : decode cL_law 315 = .ok (.pop, 1) := by decide +kernel
theorem dL_law_316 : decode cL_law 316 = .ok (.aload_n 2, 1) := by decide +kernel
theorem dL_law_317 : decode cL_law 317 = .ok (.aload_n 0, 1) := by decide +kernel
theorem dL_law_318 : decode cL_law 318 = .ok (.iload_n 3, 1) := by decide +kernel
theorem dL_law_319 : decode cL_law 319 = .ok (.iconst 1, 1) := by decide +kernel
theorem dL_law_320 : decode cL_law 320 = .ok (.iadd, 1) := by decide +kernel
theorem dL_law_321 : decode cL_law 321 = .ok (.iaload, 1) := by decide +kernel
theorem dL_law_322 : decode cL_law 322 = .ok (.invokevirtual 34, 3) := by decide +kernel
theorem dL_law_325 : decode cL_law 325 = .ok (.pop, 1) := by decide +kernel
theorem dL_law_326 : decode cL_law 326 = .ok (.goto 1110, 3) := by decide +kernel
theorem dL_law_329 : decode cL_law 329 = .ok (.aload_n 1, 1) := by decide +kernel
theorem dL_law_330 : decode cL_law 330 = .ok (.aload_n 0, 1) := by decide +kernel
theorem dL_law_331 : decode cL_law 331 = .ok (.iload_n 3, 1) := by decide +kernel
theorem dL_law_332 : decode cL_law 332 = .ok (.iconst 1, 1) := by decide +kernel
theorem dL_law_333 : decode cL_law 333 = .ok (.iadd, 1) := by decide +kernel
theorem dL_law_334 : decode cL_law 334 = .ok (.iaload, 1) := by decide +kernel
theorem dL_law_335 : decode cL_law 335 = .ok (.invokevirtual 35, 3) := by decide +kernel
theorem dL_law_338 : decode cL_law 338 = .ok (.pop, 1) := by decide +kernel
theorem dL_law_339 : decode cL_law 339 = .ok (.aload_n 2, 1) := by decide +kernel
theorem dL_law_340 : decode cL_law 340 = .ok (.aload_n 0, 1) := by decide +kernel
theorem dL_law_341 : decode cL_law 341 = .ok (.iload_n 3, 1) := by decide +kernel
theorem dL_law_342 : decode cL_law 342 = .ok (.iconst 1, 1) := by decide +kernel
theorem dL_law_343 : decode cL_law 343 = .ok (.iadd, 1) := by decide +kernel
theorem dL_law_344 : decode cL_law 344 = .ok (.iaload, 1) := by decide +kernel
theorem dL_law_345 : decode cL_law 345 = .ok (.invokevirtual 38, 3) := by decide +kernel
theorem dL_law_348 : decode cL_law 348 = .ok (.pop, 1) := by decide +kernel
theorem dL_law_349 : decode cL_law 349 = .ok (.goto 1087, 3) := by decide +kernel
theorem dL_law_352 : decode cL_law 352 = .ok (.aload_n 1, 1) := by decide +kernel
theorem dL_law_353 : decode cL_law 353 = .ok (.aload_n 0, 1) := by decide +kernel
theorem dL_law_354 : decode cL_law 354 = .ok (.iload_n 3, 1) := by decide +kernel
theorem dL_law_355 : decode cL_law 355 = .ok (.iconst 1, 1) := by decide +kernel
theorem dL_law_356 : decode cL_law 356 = .ok (.iadd, 1) := by decide +kernel
theorem dL_law_357 : decode cL_law 357 = .ok (.iaload, 1) := by decide +kernel
theorem dL_law_358 : decode cL_law 358 = .ok (.invokevirtual 39, 3) := by decide +kernel
theorem dL_law_361 : decode cL_law 361 = .ok (.pop, 1) := by decide +kernel
theorem dL_law_362 : decode cL_law 362 = .ok (.aload_n 2, 1) := by decide +kernel
theorem dL_law_363 : decode cL_law 363 = .ok (.aload_n 0, 1) := by decide +kernel
theorem dL_law_364 : decode cL_law 364 = .ok (.iload_n 3, 1) := by decide +kernel
theorem dL_law_365 : decode cL_law 365 = .ok (.iconst 1, 1) := by decide +kernel
theorem dL_law_366 : decode cL_law 366 = .ok (.iadd, 1) := by decide +kernel
theorem dL_law_367 : decode cL_law 367 = .ok (.iaload, 1) := by decide +kernel
theorem dL_law_368 : decode cL_law 368 = .ok (.invokevirtual 42, 3) := by decide +kernel
theorem dL_law_371 : decode cL_law 371 = .ok (.pop, 1) := by decide +kernel
theorem dL_law_372 : decode cL_law 372 = .ok (.goto 1064, 3) := by decide +kernel
theorem dL_law_375 : decode cL_law 375 = .ok (.aload_n 1, 1) := by decide +kernel
theorem dL_law_376 : decode cL_law 376 = .ok (.aload_n 0, 1) := by decide +kernel
theorem dL_law_377 : decode cL_law 377 = .ok (.iload_n 3, 1) := by decide +kernel
theorem dL_law_378 : decode cL_law 378 = .ok (.iconst 1, 1) := by decide +kernel
theorem dL_law_379 : decode cL_law 379 = .ok (.iadd, 1) := by decide +kernel
theorem dL_law_380 : decode cL_law 380 = .ok (.iaload, 1) := by decide +kernel
theorem dL_law_381 : decode cL_law 381 = .ok (.invokevirtual 43, 3) := by decide +kernel
theorem dL_law_384 : decode cL_law 384 = .ok (.pop, 1) := by decide +kernel
theorem dL_law_385 : decode cL_law 385 = .ok (.aload_n 2, 1) := by decide +kernel
theorem dL_law_386 : decode cL_law 386 = .ok (.aload_n 0, 1) := by decide +kernel
theorem dL_law_387 : decode cL_law 387 = .ok (.iload_n 3, 1) := by decide +kernel
theorem dL_law_388 : decode cL_law 388 = .ok (.iconst 1, 1) := by decide +kernel
theorem dL_law_389 : decode cL_law 389 = .ok (.iadd, 1) := by decide +kernel
theorem dL_law_390 : decode cL_law 390 = .ok (.iaload, 1) := by decide +kernel
theorem dL_law_391 : decode cL_law 391 = .ok (.invokevirtual 46, 3) := by decide +kernel
theorem dL_law_394 : decode cL_law 394 = .ok (.pop, 1) := by decide +kernel
theorem dL_law_395 : decode cL_law 395 = .ok (.goto 1041, 3) := by decide +kernel
theorem dL_law_398 : decode cL_law 398 = .ok (.aload_n 1, 1) := by decide +kernel
theorem dL_law_399 : decode cL_law 399 = .ok (.aload_n 0, 1) := by decide +kernel
theorem dL_law_400 : decode cL_law 400 = .ok (.iload_n 3, 1) := by decide +kernel
theorem dL_law_401 : decode cL_law 401 = .ok (.iconst 1, 1) := by decide +kernel
theorem dL_law_402 : decode cL_law 402 = .ok (.iadd, 1) := by decide +kernel
theorem dL_law_403 : decode cL_law 403 = .ok (.iaload, 1) := by decide +kernel
theorem dL_law_404 : decode cL_law 404 = .ok (.invokevirtual 47, 3) := by decide +kernel
theorem dL_law_407 : decode cL_law 407 = .ok (.pop, 1) := by decide +kernel
theorem dL_law_408 : decode cL_law 408 = .ok (.aload_n 2, 1) := by decide +kernel
theorem dL_law_409 : decode cL_law 409 = .ok (.aload_n 0, 1) := by decide +kernel
theorem dL_law_410 : decode cL_law 410 = .ok (.iload_n 3, 1) := by decide +kernel
theorem dL_law_411 : decode cL_law 411 = .ok (.iconst 1, 1) := by decide +kernel
theorem dL_law_412 : decode cL_law 412 = .ok (.iadd, 1) := by decide +kernel
theorem dL_law_413 : decode cL_law 413 = .ok (.iaload, 1) := by decide +kernel
theorem dL_law_414 : decode cL_law 414 = .ok (.invokevirtual 50, 3) := by decide +kernel
theorem dL_law_417 : decode cL_law 417 = .ok (.pop, 1) := by decide +kernel
theorem dL_law_418 : decode cL_law 418 = .ok (.goto 1018, 3) := by decide +kernel
theorem dL_law_421 : decode cL_law 421 = .ok (.aload_n 1, 1) := by decide +kernel
theorem dL_law_422 : decode cL_law 422 = .ok (.aload_n 0, 1) := by decide +kernel
theorem dL_law_423 : decode cL_law 423 = .ok (.iload_n 3, 1) := by decide +kernel
theorem dL_law_424 : decode cL_law 424 = .ok (.iconst 1, 1) := by decide +kernel
theorem dL_law_425 : decode cL_law 425 = .ok (.iadd, 1) := by decide +kernel
theorem dL_law_426 : decode cL_law 426 = .ok (.iaload, 1) := by decide +kernel
theorem dL_law_427 : decode cL_law 427 = .ok (.aload_n 0, 1) := by decide +kernel
theorem dL_law_428 : decode cL_law 428 = .ok (.iload_n 3, 1) := by decide +kernel
theorem dL_law_429 : decode cL_law 429 = .ok (.iconst 2, 1) := by decide +kernel
theorem dL_law_430 : decode cL_law 430 = .ok (.iadd, 1) := by decide +kernel
theorem dL_law_431 : decode cL_law 431 = .ok (.iaload, 1) := by decide +kernel
theorem dL_law_432 : decode cL_law 432 = .ok (.invokevirtual 51, 3) := by decide +kernel
theorem dL_law_435 : decode cL_law 435 = .ok (.pop, 1) := by decide +kernel
theorem dL_law_436 : decode cL_law 436 = .ok (.aload_n 2, 1) := by decide +kernel
theorem dL_law_437 : decode cL_law 437 = .ok (.aload_n 0, 1) := by decide +kernel
theorem dL_law_438 : decode cL_law 438 = .ok (.iload_n 3, 1) := by decide +kernel
theorem dL_law_439 : decode cL_law 439 = .ok (.iconst 1, 1) := by decide +kernel
theorem dL_law_440 : decode cL_law 440 = .ok (.iadd, 1) := by decide +kernel
theorem dL_law_441 : decode cL_law 441 = .ok (.iaload, 1) := by decide +kernel
theorem dL_law_442 : decode cL_law 442 = .ok (.aload_n 0, 1) := by decide +kernel
theorem dL_law_443 : decode cL_law 443 = .ok (.iload_n 3, 1) := by decide +kernel
theorem dL_law_444 : decode cL_law 444 = .ok (.iconst 2, 1) := by decide +kernel
theorem dL_law_445 : decode cL_law 445 = .ok (.iadd, 1) := by decide +kernel
theorem dL_law_446 : decode cL_law 446 = .ok (.iaload, 1) := by decide +kernel
theorem dL_law_447 : decode cL_law 447 = .ok (.invokevirtual 55, 3) := by decide +kernel
theorem dL_law_450 : decode cL_law 450 = .ok (.pop, 1) := by decide +kernel
theorem dL_law_451 : decode cL_law 451 = .ok (.goto 985, 3) := by decide +kernel
theorem dL_law_454 : decode cL_law 454 = .ok (.aload_n 1, 1) := by decide +kernel
theorem dL_law_455 : decode cL_law 455 = .ok (.aload_n 0, 1) := by decide +kernel
theorem dL_law_456 : decode cL_law 456 = .ok (.iload_n 3, 1) := by decide +kernel
theorem dL_law_457 : decode cL_law 457 = .ok (.iconst 1, 1) := by decide +kernel
theorem dL_law_458 : decode cL_law 458 = .ok (.iadd, 1) := by decide +kernel
theorem dL_law_459 : decode cL_law 459 = .ok (.iaload, 1) := by decide +kernel
theorem dL_law_460 : decode cL_law 460 = .ok (.aload_n 0, 1) := by decide +kernel
theorem dL_law_461 : decode cL_law 461 = .ok (.iload_n 3, 1) := by decide +kernel
theorem dL_law_462 : decode cL_law 462 = .ok (.iconst 2, 1) := by decide +kernel
theorem dL_law_463 : decode cL_law 463 = .ok (.iadd, 1) := by decide +kernel
theorem dL_law_464 : decode cL_law 464 = .ok (.iaload, 1) := by decide +kernel
theorem dL_law_465 : decode cL_law 465 = .ok (.invokevirtual 56, 3) := by decide +kernel
theorem dL_law_468 : decode cL_law 468 = .ok (.pop, 1) := by decide +kernel
theorem dL_law_469 : decode cL_law 469 = .ok (.aload_n 2, 1) := by decide +kernel
theorem dL_law_470 : decode cL_law 470 = .ok (.aload_n 0, 1) := by decide +kernel
theorem dL_law_471 : decode cL_law 471 = .ok (.iload_n 3, 1) := by decide +kernel
theorem dL_law_472 : decode cL_law 472 = .ok (.iconst 1, 1) := by decide +kernel
theorem dL_law_473 : decode cL_law 473 = .ok (.iadd, 1) := by decide +kernel
theorem dL_law_474 : decode cL_law 474 = .ok (.iaload, 1) := by decide +kernel
theorem dL_law_475 : decode cL_law 475 = .ok (.aload_n 0, 1) := by decide +kernel
theorem dL_law_476 : decode cL_law 476 = .ok (.iload_n 3, 1) := by decide +kernel
theorem dL_law_477 : decode cL_law 477 = .ok (.iconst 2, 1) := by decide +kernel
theorem dL_law_478 : decode cL_law 478 = .ok (.iadd, 1) := by decide +kernel
theorem dL_law_479 : decode cL_law 479 = .ok (.iaload, 1) := by decide +kernel
theorem dL_law_480 : decode cL_law 480 = .ok (.invokevirtual 59, 3) := by decide +kernel
theorem dL_law_483 : decode cL_law 483 = .ok (.pop, 1) := by decide +kernel
theorem dL_law_484 : decode cL_law 484 = .ok (.goto 952, 3) := by decide +kernel
theorem dL_law_487 : decode cL_law 487 = .ok (.aload_n 1, 1) := by decide +kernel
theorem dL_law_488 : decode cL_law 488 = .ok (.aload_n 0, 1) := by decide +kernel
theorem dL_law_489 : decode cL_law 489 = .ok (.iload_n 3, 1) := by decide +kernel
theorem dL_law_490 : decode cL_law 490 = .ok (.iconst 1, 1) := by decide +kernel
theorem dL_law_491 : decode cL_law 491 = .ok (.iadd, 1) := by decide +kernel
theorem dL_law_492 : decode cL_law 492 = .ok (.iaload, 1) := by decide +kernel
theorem dL_law_493 : decode cL_law 493 = .ok (.invokevirtual 60, 3) := by decide +kernel
theorem dL_law_496 : decode cL_law 496 = .ok (.pop2, 1) := by decide +kernel
theorem dL_law_497 : decode cL_law 497 = .ok (.aload_n 2, 1) := by decide +kernel
theorem dL_law_498 : decode cL_law 498 = .ok (.aload_n 0, 1) := by decide +kernel
theorem dL_law_499 : decode cL_law 499 = .ok (.iload_n 3, 1) := by decide +kernel
theorem dL_law_500 : decode cL_law 500 = .ok (.iconst 1, 1) := by decide +kernel
theorem dL_law_501 : decode cL_law 501 = .ok (.iadd, 1) := by decide +kernel
theorem dL_law_502 : decode cL_law 502 = .ok (.iaload, 1) := by decide +kernel
theorem dL_law_503 : decode cL_law 503 = .ok (.invokevirtual 64, 3) := by decide +kernel
theorem dL_law_506 : decode cL_law 506 = .ok (.pop2, 1) := by decide +kernel
theorem dL_law_507 : decode cL_law 507 = .ok (.goto 929, 3) := by decide +kernel
theorem dL_law_510 : decode cL_law 510 = .ok (.aload_n 1, 1) := by decide +kernel
theorem dL_law_511 : decode cL_law 511 = .ok (.aload_n 0, 1) := by decide +kernel
theorem dL_law_512 : decode cL_law 512 = .ok (.iload_n 3, 1) := by decide +kernel
theorem dL_law_513 : decode cL_law 513 = .ok (.iconst 1, 1) := by decide +kernel
theorem dL_law_514 : decode cL_law 514 = .ok (.iadd, 1) := by decide +kernel
theorem dL_law_515 : decode cL_law 515 = .ok (.iaload, 1) := by decide +kernel
theorem dL_law_516 : decode cL_law 516 = .ok (.aload_n 0, 1) := by decide +kernel
theorem dL_law_517 : decode cL_law 517 = .ok (.iload_n 3, 1) := by decide +kernel
theorem dL_law_518 : decode cL_law 518 = .ok (.iconst 2, 1) := by decide +kernel
theorem dL_law_519 : decode cL_law 519 = .ok (.iadd, 1) := by decide +kernel
theorem dL_law_520 : decode cL_law 520 = .ok (.iaload, 1) := by decide +kernel
theorem dL_law_521 : decode cL_law 521 = .ok (.invokevirtual 65, 3) := by decide +kernel
theorem dL_law_524 : decode cL_law 524 = .ok (.pop, 1) := by decide +kernel
theorem dL_law_525 : decode cL_law 525 = .ok (.aload_n 2, 1) := by decide +kernel
theorem dL_law_526 : decode cL_law 526 = .ok (.aload_n 0, 1) := by decide +kernel
theorem dL_law_527 : decode cL_law 527 = .ok (.iload_n 3, 1) := by decide +kernel
theorem dL_law_528 : decode cL_law 528 = .ok (.iconst 1, 1) := by decide +kernel
theorem dL_law_529 : decode cL_law 529 = .ok (.iadd, 1) := by decide +kernel
theorem dL_law_530 : decode cL_law 530 = .ok (.iaload, 1) := by decide +kernel
theorem dL_law_531 : decode cL_law 531 = .ok (.aload_n 0, 1) := by decide +kernel
theorem dL_law_532 : decode cL_law 532 = .ok (.iload_n 3, 1) := by decide +kernel
theorem dL_law_533 : decode cL_law 533 = .ok (.iconst 2, 1) := by decide +kernel
theorem dL_law_534 : decode cL_law 534 = .ok (.iadd, 1) := by decide +kernel
theorem dL_law_535 : decode cL_law 535 = .ok (.iaload, 1) := by decide +kernel
theorem dL_law_536 : decode cL_law 536 = .ok (.invokevirtual 68, 3) := by decide +kernel
theorem dL_law_539 : decode cL_law 539 = .ok (.pop, 1) := by decide +kernel
theorem dL_law_540 : decode cL_law 540 = .ok (.goto 896, 3) := by decide +kernel
theorem dL_law_543 : decode cL_law 543 = .ok (.aload_n 1, 1) := by decide +kernel
theorem dL_law_544 : decode cL_law 544 = .ok (.aload_n 0, 1) := by decide +kernel
theorem dL_law_545 : decode cL_law 545 = .ok (.iload_n 3, 1) := by decide +kernel
theorem dL_law_546 : decode cL_law 546 = .ok (.iconst 1, 1) := by decide +kernel
theorem dL_law_547 : decode cL_law 547 = .ok (.iadd, 1) := by decide +kernel
theorem dL_law_548 : decode cL_law 548 = .ok (.iaload, 1) := by decide +kernel
theorem dL_law_549 : decode cL_law 549 = .ok (.aload_n 0, 1) := by decide +kernel
theorem dL_law_550 : decode cL_law 550 = .ok (.iload_n 3, 1) := by decide +kernel
theorem dL_law_551 : decode cL_law 551 = .ok (.iconst 2, 1) := by decide +kernel
theorem dL_law_552 : decode cL_law 552 = .ok (.iadd, 1) := by decide +kernel
theorem dL_law_553 : decode cL_law 553 = .ok (.iaload, 1) := by decide +kernel
theorem dL_law_554 : decode cL_law 554 = .ok (.invokevirtual 69, 3) := by decide +kernel
theorem dL_law_557 : decode cL_law 557 = .ok (.aload_n 2, 1) := by decide +kernel
theorem dL_law_558 : decode cL_law 558 = .ok (.aload_n 0, 1) := by decide +kernel
theorem dL_law_559 : decode cL_law 559 = .ok (.iload_n 3, 1) := by decide +kernel
theorem dL_law_560 : decode cL_law 560 = .ok (.iconst 1, 1) := by decide +kernel
theorem dL_law_561 : decode cL_law 561 = .ok (.iadd, 1) := by decide +kernel
theorem dL_law_562 : decode cL_law 562 = .ok (.iaload, 1) := by decide +kernel
theorem dL_law_563 : decode cL_law 563 = .ok (.aload_n 0, 1) := by decide +kernel
theorem dL_law_564 : decode cL_law 564 = .ok (.iload_n 3, 1) := by decide +kernel
theorem dL_law_565 : decode cL_law 565 = .ok (.iconst 2, 1) := by decide +kernel
theorem dL_law_566 : decode cL_law 566 = .ok (.iadd, 1) := by decide +kernel
theorem dL_law_567 : decode cL_law 567 = .ok (.iaload, 1) := by decide +kernel
theorem dL_law_568 : decode cL_law 568 = .ok (.invokevirtual 72, 3) := by decide +kernel
theorem dL_law_571 : decode cL_law 571 = .ok (.if_icmp .eq 865, 3) := by decide +kernel
theorem dL_law_574 : decode cL_law 574 = .ok (.iconst 0, 1) := by decide +kernel
theorem dL_law_575 : decode cL_law 575 = .ok (.ireturn, 1) := by decide +kernel
theorem dL_law_576 : decode cL_law 576 = .ok (.aload_n 1, 1) := by decide +kernel
theorem dL_law_577 : decode cL_law 577 = .ok (.aload_n 0, 1) := by decide +kernel
theorem dL_law_578 : decode cL_law 578 = .ok (.iload_n 3, 1) := by decide +kernel
theorem dL_law_579 : decode cL_law 579 = .ok (.iconst 1, 1) := by decide +kernel
theorem dL_law_580 : decode cL_law 580 = .ok (.iadd, 1) := by decide +kernel
theorem dL_law_581 : decode cL_law 581 = .ok (.iaload, 1) := by decide +kernel
theorem dL_law_582 : decode cL_law 582 = .ok (.invokevirtual 73, 3) := by decide +kernel
theorem dL_law_585 : decode cL_law 585 = .ok (.pop, 1) := by decide +kernel
theorem dL_law_586 : decode cL_law 586 = .ok (.aload_n 2, 1) := by decide +kernel
theorem dL_law_587 : decode cL_law 587 = .ok (.aload_n 0, 1) := by decide +kernel
theorem dL_law_588 : decode cL_law 588 = .ok (.iload_n 3, 1) := by decide +kernel
theorem dL_law_589 : decode cL_law 589 = .ok (.iconst 1, 1) := by decide +kernel
theorem dL_law_590 : decode cL_law 590 = .ok (.iadd, 1) := by decide +kernel
theorem dL_law_591 : decode cL_law 591 = .ok (.iaload, 1) := by decide +kernel
theorem dL_law_592 : decode cL_law 592 = .ok (.invokevirtual 76, 3) := by decide +kernel
theorem dL_law_595 : decode cL_law 595 = .ok (.pop, 1) := by decide +kernel
theorem dL_law_596 : decode cL_law 596 = .ok (.goto 840, 3) := by decide +kernel
theorem dL_law_599 : decode cL_law 599 = .ok (.aload_n 1, 1) := by decide +kernel
theorem dL_law_600 : decode cL_law 600 = .ok (.aload_n 0, 1) := by decide +kernel
theorem dL_law_601 : decode cL_law 601 = .ok (.iload_n 3, 1) := by decide +kernel
theorem dL_law_602 : decode cL_law 602 = .ok (.iconst 1, 1) := by decide +kernel
theorem dL_law_603 : decode cL_law 603 = .ok (.iadd, 1) := by decide +kernel
theorem dL_law_604 : decode cL_law 604 = .ok (.iaload, 1) := by decide +kernel
theorem dL_law_605 : decode cL_law 605 = .ok (.aload_n 0, 1) := by decide +kernel
theorem dL_law_606 : decode cL_law 606 = .ok (.iload_n 3, 1) := by decide +kernel
theorem dL_law_607 : decode cL_law 607 = .ok (.iconst 2, 1) := by decide +kernel
theorem dL_law_608 : decode cL_law 608 = .ok (.iadd, 1) := by decide +kernel
theorem dL_law_609 : decode cL_law 609 = .ok (.iaload, 1) := by decide +kernel
theorem dL_law_610 : decode cL_law 610 = .ok (.invokevirtual 77, 3) := by decide +kernel
theorem dL_law_613 : decode cL_law 613 = .ok (.pop, 1) := by decide +kernel
theorem dL_law_614 : decode cL_law 614 = .ok (.aload_n 2, 1) := by decide +kernel
theorem dL_law_615 : decode cL_law 615 = .ok (.aload_n 0, 1) := by decide +kernel
theorem dL_law_616 : decode cL_law 616 = .ok (.iload_n 3, 1) := by decide +kernel
theorem dL_law_617 : decode cL_law 617 = .ok (.iconst 1, 1) := by decide +kernel
theorem dL_law_618 : decode cL_law 618 = .ok (.iadd, 1) := by decide +kernel
theorem dL_law_619 : decode cL_law 619 = .ok (.iaload, 1) := by decide +kernel
theorem dL_law_620 : decode cL_law 620 = .ok (.aload_n 0, 1) := by decide +kernel
theorem dL_law_621 : decode cL_law 621 = .ok (.iload_n 3, 1) := by decide +kernel
theorem dL_law_622 : decode cL_law 622 = .ok (.iconst 2, 1) := by decide +kernel
theorem dL_law_623 : decode cL_law 623 = .ok (.iadd, 1) := by decide +kernel
theorem dL_law_624 : decode cL_law 624 = .ok (.iaload, 1) := by decide +kernel
theorem dL_law_625 : decode cL_law 625 = .ok (.invokevirtual 80, 3) := by decide +kernel
theorem dL_law_628 : decode cL_law 628 = .ok (.pop, 1) := by decide +kernel
theorem dL_law_629 : decode cL_law 629 = .ok (.goto 807, 3) := by decide +kernel
theorem dL_law_632 : decode cL_law 632 = .ok (.aload_n 1, 1) := by decide +kernel
theorem dL_law_633 : decode cL_law 633 = .ok (.aload_n 0, 1) := by decide +kernel
theorem dL_law_634 : decode cL_law 634 = .ok (.iload_n 3, 1) := by decide +kernel
theorem dL_law_635 : decode cL_law 635 = .ok (.iconst 1, 1) := by decide +kernel
theorem dL_law_636 : decode cL_law 636 = .ok (.iadd, 1) := by decide +kernel
theorem dL_law_637 : decode cL_law 637 = .ok (.iaload, 1) := by decide +kernel
theorem dL_law_638 : decode cL_law 638 = .ok (.aload_n 0, 1) := by decide +kernel
theorem dL_law_639 : decode cL_law 639 = .ok (.iload_n 3, 1) := by decide +kernel
theorem dL_law_640 : decode cL_law 640 = .ok (.iconst 2, 1) := by decide +kernel
theorem dL_law_641 : decode cL_law 641 = .ok (.iadd, 1) := by decide +kernel
theorem dL_law_642 : decode cL_law 642 = .ok (.iaload, 1) := by decide +kernel
theorem dL_law_643 : decode cL_law 643 = .ok (.invokevirtual 81, 3) := by decide +kernel
theorem dL_law_646 : decode cL_law 646 = .ok (.pop, 1) := by decide +kernel
theorem dL_law_647 : decode cL_law 647 = .ok (.aload_n 2, 1) := by decide +kernel
theorem dL_law_648 : decode cL_law 648 = .ok (.aload_n 0, 1) := by decide +kernel
theorem dL_law_649 : decode cL_law 649 = .ok (.iload_n 3, 1) := by decide +kernel
theorem dL_law_650 : decode cL_law 650 = .ok (.iconst 1, 1) := by decide +kernel
theorem dL_law_651 : decode cL_law 651 = .ok (.iadd, 1) := by decide +kernel
theorem dL_law_652 : decode cL_law 652 = .ok (.iaload, 1) := by decide +kernel
theorem dL_law_653 : decode cL_law 653 = .ok (.aload_n 0, 1) := by decide +kernel
theorem dL_law_654 : decode cL_law 654 = .ok (.iload_n 3, 1) := by decide +kernel
theorem dL_law_655 : decode cL_law 655 = .ok (.iconst 2, 1) := by decide +kernel
theorem dL_law_656 : decode cL_law 656 = .ok (.iadd, 1) := by decide +kernel
theorem dL_law_657 : decode cL_law 657 = .ok (.iaload, 1) := by decide +kernel
theorem dL_law_658 : decode cL_law 658 = .ok (.invokevirtual 84, 3) := by decide +kernel
theorem dL_law_661 : decode cL_law 661 = .ok (.pop, 1) := by decide +kernel
theorem dL_law_662 : decode cL_law 662 = .ok (.goto 774, 3) := by decide +kernel
theorem dL_law_665 : decode cL_law 665 = .ok (.aload_n 1, 1) := by decide +kernel
theorem dL_law_666 : decode cL_law 666 = .ok (.aload_n 0, 1) := by decide +kernel
theorem dL_law_667 : decode cL_law 667 = .ok (.iload_n 3, 1) := by decide +kernel
theorem dL_law_668 : decode cL_law 668 = .ok (.iconst 1, 1) := by decide +kernel
theorem dL_law_669 : decode cL_law 669 = .ok (.iadd, 1) := by decide +kernel
theorem dL_law_670 : decode cL_law 670 = .ok (.iaload, 1) := by decide +kernel
theorem dL_law_671 : decode cL_law 671 = .ok (.aload_n 0, 1) := by decide +kernel
theorem dL_law_672 : decode cL_law 672 = .ok (.iload_n 3, 1) := by decide +kernel
theorem dL_law_673 : decode cL_law 673 = .ok (.iconst 2, 1) := by decide +kernel
theorem dL_law_674 : decode cL_law 674 = .ok (.iadd, 1) := by decide +kernel
theorem dL_law_675 : decode cL_law 675 = .ok (.iaload, 1) := by decide +kernel
theorem dL_law_676 : decode cL_law 676 = .ok (.invokevirtual 85, 3) := by decide +kernel
theorem dL_law_679 : decode cL_law 679 = .ok (.pop, 1) := by decide +kernel
theorem dL_law_680 : decode cL_law 680 = .ok (.aload_n 2, 1) := by decide +kernel
theorem dL_law_681 : decode cL_law 681 = .ok (.aload_n 0, 1) := by decide +kernel
theorem dL_law_682 : decode cL_law 682 = .ok (.iload_n 3, 1) := by decide +kernel
theorem dL_law_683 : decode cL_law 683 = .ok (.iconst 1, 1) := by decide +kernel
theorem dL_law_684 : decode cL_law 684 = .ok (.iadd, 1) := by decide +kernel
theorem dL_law_685 : decode cL_law 685 = .ok (.iaload, 1) := by decide +kernel
theorem dL_law_686 : decode cL_law 686 = .ok (.aload_n 0, 1) := by decide +kernel
theorem dL_law_687 : decode cL_law 687 = .ok (.iload_n 3, 1) := by decide +kernel
theorem dL_law_688 : decode cL_law 688 = .ok (.iconst 2, 1) := by decide +kernel
theorem dL_law_689 : decode cL_law 689 = .ok (.iadd, 1) := by decide +kernel
theorem dL_law_690 : decode cL_law 690 = .ok (.iaload, 1) := by decide +kernel
theorem dL_law_691 : decode cL_law 691 = .ok (.invokevirtual 88, 3) := by decide +kernel
theorem dL_law_694 : decode cL_law 694 = .ok (.pop, 1) := by decide +kernel
theorem dL_law_695 : decode cL_law 695 = .ok (.goto 741, 3) := by decide +kernel
theorem dL_law_698 : decode cL_law 698 = .ok (.aload_n 1, 1) := by decide +kernel
theorem dL_law_699 : decode cL_law 699 = .ok (.invokevirtual 89, 3) := by decide +kernel
theorem dL_law_702 : decode cL_law 702 = .ok (.pop, 1) := by decide +kernel
theorem dL_law_703 : decode cL_law 703 = .ok (.aload_n 2, 1) := by decide +kernel
theorem dL_law_704 : decode cL_law 704 = .ok (.invokevirtual 92, 3) := by decide +kernel
theorem dL_law_707 : decode cL_law 707 = .ok (.pop, 1) := by decide +kernel
theorem dL_law_708 : decode cL_law 708 = .ok (.goto 728, 3) := by decide +kernel
theorem dL_law_711 : decode cL_law 711 = .ok (.aload_n 1, 1) := by decide +kernel
theorem dL_law_712 : decode cL_law 712 = .ok (.invokevirtual 93, 3) := by decide +kernel
theorem dL_law_715 : decode cL_law 715 = .ok (.pop, 1) := by decide +kernel
theorem dL_law_716 : decode cL_law 716 = .ok (.aload_n 2, 1) := by decide +kernel
theorem dL_law_717 : decode cL_law 717 = .ok (.invokevirtual 96, 3) := by decide +kernel
theorem dL_law_720 : decode cL_law 720 = .ok (.pop, 1) := by decide +kernel
theorem dL_law_721 : decode cL_law 721 = .ok (.goto 715, 3) := by decide +kernel
theorem dL_law_724 : decode cL_law 724 = .ok (.aload_n 1, 1) := by decide +kernel
theorem dL_law_725 : decode cL_law 725 = .ok (.aload_n 0, 1) := by decide +kernel
theorem dL_law_726 : decode cL_law 726 = .ok (.iload_n 3, 1) := by decide +kernel
theorem dL_law_727 : decode cL_law 727 = .ok (.iconst 1, 1) := by decide +kernel
theorem dL_law_728 : decode cL_law 728 = .ok (.iadd, 1) := by decide +kernel
theorem dL_law_729 : decode cL_law 729 = .ok (.iaload, 1) := by decide +kernel
theorem dL_law_730 : decode cL_law 730 = .ok (.invokevirtual 97, 3) := by decide +kernel
theorem dL_law_733 : decode cL_law 733 = .ok (.pop, 1) := by decide +kernel
theorem dL_law_734 : decode cL_law 734 = .ok (.aload_n 2, 1) := by decide +kernel
theorem dL_law_735 : decode cL_law 735 = .ok (.aload_n 0, 1) := by decide +kernel
theorem dL_law_736 : decode cL_law 736 = .ok (.iload_n 3, 1) := by decide +kernel
theorem dL_law_737 : decode cL_law 737 = .ok (.iconst 1, 1) := by decide +kernel
theorem dL_law_738 : decode cL_law 738 = .ok (.iadd, 1) := by decide +kernel
theorem dL_law_739 : decode cL_law 739 = .ok (.iaload, 1) := by decide +kernel
theorem dL_law_740 : decode cL_law 740 = .ok (.invokevirtual 100, 3) := by decide +kernel
theorem dL_law_743 : decode cL_law 743 = .ok (.pop, 1) := by decide +kernel
theorem dL_law_744 : decode cL_law 744 = .ok (.goto 692, 3) := by decide +kernel
theorem dL_law_747 : decode cL_law 747 = .ok (.aload_n 1, 1) := by decide +kernel
theorem dL_law_748 : decode cL_law 748 = .ok (.aload_n 0, 1) := by decide +kernel
theorem dL_law_749 : decode cL_law 749 = .ok (.iload_n 3, 1) := by decide +kernel
theorem dL_law_750 : decode cL_law 750 = .ok (.iconst 1, 1) := by decide +kernel
theorem dL_law_751 : decode cL_law 751 = .ok (.iadd, 1) := by decide +kernel
theorem dL_law_752 : decode cL_law 752 = .ok (.iaload, 1) := by decide +kernel
theorem dL_law_753 : decode cL_law 753 = .ok (.invokevirtual 101, 3) := by decide +kernel
theorem dL_law_756 : decode cL_law 756 = .ok (.pop, 1) := by decide +kernel
theorem dL_law_757 : decode cL_law 757 = .ok (.aload_n 2, 1) := by decide +kernel
theorem dL_law_758 : decode cL_law 758 = .ok (.aload_n 0, 1) := by decide +kernel
theorem dL_law_759 : decode cL_law 759 = .ok (.iload_n 3, 1) := by decide +kernel
theorem dL_law_760 : decode cL_law 760 = .ok (.iconst 1, 1) := by decide +kernel
theorem dL_law_761 : decode cL_law 761 = .ok (.iadd, 1) := by decide +kernel
theorem dL_law_762 : decode cL_law 762 = .ok (.iaload, 1) := by decide +kernel
theorem dL_law_763 : decode cL_law 763 = .ok (.invokevirtual 104, 3) := by decide +kernel
theorem dL_law_766 : decode cL_law 766 = .ok (.pop, 1) := by decide +kernel
theorem dL_law_767 : decode cL_law 767 = .ok (.goto 669, 3) := by decide +kernel
theorem dL_law_770 : decode cL_law 770 = .ok (.aload_n 1, 1) := by decide +kernel
theorem dL_law_771 : decode cL_law 771 = .ok (.aload_n 0, 1) := by decide +kernel
theorem dL_law_772 : decode cL_law 772 = .ok (.iload_n 3, 1) := by decide +kernel
theorem dL_law_773 : decode cL_law 773 = .ok (.iconst 1, 1) := by decide +kernel
theorem dL_law_774 : decode cL_law 774 = .ok (.iadd, 1) := by decide +kernel
theorem dL_law_775 : decode cL_law 775 = .ok (.iaload, 1) := by decide +kernel
theorem dL_law_776 : decode cL_law 776 = .ok (.aload_n 0, 1) := by decide +kernel
theorem dL_law_777 : decode cL_law 777 = .ok (.iload_n 3, 1) := by decide +kernel
theorem dL_law_778 : decode cL_law 778 = .ok (.iconst 2, 1) := by decide +kernel
theorem dL_law_779 : decode cL_law 779 = .ok (.iadd, 1) := by decide +kernel
theorem dL_law_780 : decode cL_law 780 = .ok (.iaload, 1) := by decide +kernel
theorem dL_law_781 : decode cL_law 781 = .ok (.invokevirtual 105, 3) := by decide +kernel
theorem dL_law_784 : decode cL_law 784 = .ok (.pop, 1) := by decide +kernel
theorem dL_law_785 : decode cL_law 785 = .ok (.aload_n 2, 1) := by decide +kernel
theorem dL_law_786 : decode cL_law 786 = .ok (.aload_n 0, 1) := by decide +kernel
theorem dL_law_787 : decode cL_law 787 = .ok (.iload_n 3, 1) := by decide +kernel
theorem dL_law_788 : decode cL_law 788 = .ok (.iconst 1, 1) := by decide +kernel
theorem dL_law_789 : decode cL_law 789 = .ok (.iadd, 1) := by decide +kernel
theorem dL_law_790 : decode cL_law 790 = .ok (.iaload, 1) := by decide +kernel
theorem dL_law_791 : decode cL_law 791 = .ok (.aload_n 0, 1) := by decide +kernel
theorem dL_law_792 : decode cL_law 792 = .ok (.iload_n 3, 1) := by decide +kernel
theorem dL_law_793 : decode cL_law 793 = .ok (.iconst 2, 1) := by decide +kernel
theorem dL_law_794 : decode cL_law 794 = .ok (.iadd, 1) := by decide +kernel
theorem dL_law_795 : decode cL_law 795 = .ok (.iaload, 1) := by decide +kernel
theorem dL_law_796 : decode cL_law 796 = .ok (.invokevirtual 108, 3) := by decide +kernel
theorem dL_law_799 : decode cL_law 799 = .ok (.pop, 1) := by decide +kernel
theorem dL_law_800 : decode cL_law 800 = .ok (.goto 636, 3) := by decide +kernel
theorem dL_law_803 : decode cL_law 803 = .ok (.aload_n 1, 1) := by decide +kernel
theorem dL_law_804 : decode cL_law 804 = .ok (.aload_n 0, 1) := by decide +kernel
theorem dL_law_805 : decode cL_law 805 = .ok (.iload_n 3, 1) := by decide +kernel
theorem dL_law_806 : decode cL_law 806 = .ok (.iconst 1, 1) := by decide +kernel
theorem dL_law_807 : decode cL_law 807 = .ok (.iadd, 1) := by decide +kernel
theorem dL_law_808 : decode cL_law 808 = .ok (.iaload, 1) := by decide +kernel
theorem dL_law_809 : decode cL_law 809 = .ok (.aload_n 0, 1) := by decide +kernel
theorem dL_law_810 : decode cL_law 810 = .ok (.iload_n 3, 1) := by decide +kernel
theorem dL_law_811 : decode cL_law 811 = .ok (.iconst 2, 1) := by decide +kernel
theorem dL_law_812 : decode cL_law 812 = .ok (.iadd, 1) := by decide +kernel
theorem dL_law_813 : decode cL_law 813 = .ok (.iaload, 1) := by decide +kernel
theorem dL_law_814 : decode cL_law 814 = .ok (.invokevirtual 109, 3) := by decide +kernel
theorem dL_law_817 : decode cL_law 817 = .ok (.pop, 1) := by decide +kernel
theorem dL_law_818 : decode cL_law 818 = .ok (.aload_n 2, 1) := by decide +kernel
theorem dL_law_819 : decode cL_law 819 = .ok (.aload_n 0, 1) := by decide +kernel
theorem dL_law_820 : decode cL_law 820 = .ok (.iload_n 3, 1) := by decide +kernel
theorem dL_law_821 : decode cL_law 821 = .ok (.iconst 1, 1) := by decide +kernel
theorem dL_law_822 : decode cL_law 822 = .ok (.iadd, 1) := by decide +kernel
theorem dL_law_823 : decode cL_law 823 = .ok (.iaload, 1) := by decide +kernel
theorem dL_law_824 : decode cL_law 824 = .ok (.aload_n 0, 1) := by decide +kernel
theorem dL_law_825 : decode cL_law 825 = .ok (.iload_n 3, 1) := by decide +kernel
theorem dL_law_826 : decode cL_law 826 = .ok (.iconst 2, 1) := by decide +kernel
theorem dL_law_827 : decode cL_law 827 = .ok (.iadd, 1) := by decide +kernel
theorem dL_law_828 : decode cL_law 828 = .ok (.iaload, 1) := by decide +kernel
theorem dL_law_829 : decode cL_law 829 = .ok (.invokevirtual 112, 3) := by decide +kernel
theorem dL_law_832 : decode cL_law 832 = .ok (.pop, 1) := by decide +kernel
theorem dL_law_833 : decode cL_law 833 = .ok (.goto 603, 3) := by decide +kernel
theorem dL_law_836 : decode cL_law 836 = .ok (.aload_n 1, 1) := by decide +kernel
theorem dL_law_837 : decode cL_law 837 = .ok (.aload_n 0, 1) := by decide +kernel
theorem dL_law_838 : decode cL_law 838 = .ok (.iload_n 3, 1) := by decide +kernel
theorem dL_law_839 : decode cL_law 839 = .ok (.iconst 1, 1) := by decide +kernel
theorem dL_law_840 : decode cL_law 840 = .ok (.iadd, 1) := by decide +kernel
theorem dL_law_841 : decode cL_law 841 = .ok (.iaload, 1) := by decide +kernel
theorem dL_law_842 : decode cL_law 842 = .ok (.aload_n 0, 1) := by decide +kernel
theorem dL_law_843 : decode cL_law 843 = .ok (.iload_n 3, 1) := by decide +kernel
theorem dL_law_844 : decode cL_law 844 = .ok (.iconst 2, 1) := by decide +kernel
theorem dL_law_845 : decode cL_law 845 = .ok (.iadd, 1) := by decide +kernel
theorem dL_law_846 : decode cL_law 846 = .ok (.iaload, 1) := by decide +kernel
theorem dL_law_847 : decode cL_law 847 = .ok (.aload_n 0, 1) := by decide +kernel
theorem dL_law_848 : decode cL_law 848 = .ok (.iload_n 3, 1) := by decide +kernel
theorem dL_law_849 : decode cL_law 849 = .ok (.iconst 3, 1) := by decide +kernel
theorem dL_law_850 : decode cL_law 850 = .ok (.iadd, 1) := by decide +kernel
theorem dL_law_851 : decode cL_law 851 = .ok (.iaload, 1) := by decide +kernel
theorem dL_law_852 : decode cL_law 852 = .ok (.invokevirtual 113, 3) := by decide +kernel
theorem dL_law_855 : decode cL_law 855 = .ok (.pop, 1) := by decide +kernel
theorem dL_law_856 : decode cL_law 856 = .ok (.aload_n 2, 1) := by decide +kernel
theorem dL_law_857 : decode cL_law 857 = .ok (.aload_n 0, 1) := by decide +kernel
theorem dL_law_858 : decode cL_law 858 = .ok (.iload_n 3, 1) := by decide +kernel
theorem dL_law_859 : decode cL_law 859 = .ok (.iconst 1, 1) := by decide +kernel
theorem dL_law_860 : decode cL_law 860 = .ok (.iadd, 1) := by decide +kernel
theorem dL_law_861 : decode cL_law 861 = .ok (.iaload, 1) := by decide +kernel
theorem dL_law_862 : decode cL_law 862 = .ok (.aload_n 0, 1) := by decide +kernel
theorem dL_law_863 : decode cL_law 863 = .ok (.iload_n 3, 1) := by decide +kernel
theorem dL_law_864 : decode cL_law 864 = .ok (.iconst 2, 1) := by decide +kernel
theorem dL_law_865 : decode cL_law 865 = .ok (.iadd, 1) := by decide +kernel
theorem dL_law_866 : decode cL_law 866 = .ok (.iaload, 1) := by decide +kernel
theorem dL_law_867 : decode cL_law 867 = .ok (.aload_n 0, 1) := by decide +kernel
theorem dL_law_868 : decode cL_law 868 = .ok (.iload_n 3, 1) := by decide +kernel
theorem dL_law_869 : decode cL_law 869 = .ok (.iconst 3, 1) := by decide +kernel
theorem dL_law_870 : decode cL_law 870 = .ok (.iadd, 1) := by decide +kernel
theorem dL_law_871 : decode cL_law 871 = .ok (.iaload, 1) := by decide +kernel
theorem dL_law_872 : decode cL_law 872 = .ok (.invokevirtual 117, 3) := by decide +kernel
theorem dL_law_875 : decode cL_law 875 = .ok (.pop, 1) := by decide +kernel
theorem dL_law_876 : decode cL_law 876 = .ok (.goto 560, 3) := by decide +kernel
theorem dL_law_879 : decode cL_law 879 = .ok (.aload_n 1, 1) := by decide +kernel
theorem dL_law_880 : decode cL_law 880 = .ok (.aload_n 0, 1) := by decide +kernel
theorem dL_law_881 : decode cL_law 881 = .ok (.iload_n 3, 1) := by decide +kernel
theorem dL_law_882 : decode cL_law 882 = .ok (.iconst 1, 1) := by decide +kernel
theorem dL_law_883 : decode cL_law 883 = .ok (.iadd, 1) := by decide +kernel
theorem dL_law_884 : decode cL_law 884 = .ok (.iaload, 1) := by decide +kernel
theorem dL_law_885 : decode cL_law 885 = .ok (.invokevirtual 118, 3) := by decide +kernel
theorem dL_law_888 : decode cL_law 888 = .ok (.pop, 1) := by decide +kernel
theorem dL_law_889 : decode cL_law 889 = .ok (.aload_n 2, 1) := by decide +kernel
theorem dL_law_890 : decode cL_law 890 = .ok (.aload_n 0, 1) := by decide +kernel
theorem dL_law_891 : decode cL_law 891 = .ok (.iload_n 3, 1) := by decide +kernel
theorem dL_law_892 : decode cL_law 892 = .ok (.iconst 1, 1) := by decide +kernel
theorem dL_law_893 : decode cL_law 893 = .ok (.iadd, 1) := by decide +kernel
theorem dL_law_894 : decode cL_law 894 = .ok (.iaload, 1) := by decide +kernel
theorem dL_law_895 : decode cL_law 895 = .ok (.invokevirtual 121, 3) := by decide +kernel
theorem dL_law_898 : decode cL_law 898 = .ok (.pop, 1) := by decide +kernel
theorem dL_law_899 : decode cL_law 899 = .ok (.goto 537, 3) := by decide +kernel
theorem dL_law_902 : decode cL_law 902 = .ok (.aload_n 1, 1) := by decide +kernel
theorem dL_law_903 : decode cL_law 903 = .ok (.aload_n 0, 1) := by decide +kernel
theorem dL_law_904 : decode cL_law 904 = .ok (.iload_n 3, 1) := by decide +kernel
theorem dL_law_905 : decode cL_law 905 = .ok (.iconst 1, 1) := by decide +kernel
theorem dL_law_906 : decode cL_law 906 = .ok (.iadd, 1) := by decide +kernel
theorem dL_law_907 : decode cL_law 907 = .ok (.iaload, 1) := by decide +kernel
theorem dL_law_908 : decode cL_law 908 = .ok (.aload_n 0, 1) := by decide +kernel
theorem dL_law_909 : decode cL_law 909 = .ok (.iload_n 3, 1) := by decide +kernel
theorem dL_law_910 : decode cL_law 910 = .ok (.iconst 2, 1) := by decide +kernel
theorem dL_law_911 : decode cL_law 911 = .ok (.iadd, 1) := by decide +kernel
theorem dL_law_912 : decode cL_law 912 = .ok (.iaload, 1) := by decide +kernel
theorem dL_law_913 : decode cL_law 913 = .ok (.aload_n 0, 1) := by decide +kernel
theorem dL_law_914 : decode cL_law 914 = .ok (.iload_n 3, 1) := by decide +kernel
theorem dL_law_915 : decode cL_law 915 = .ok (.iconst 3, 1) := by decide +kernel
theorem dL_law_916 : decode cL_law 916 = .ok (.iadd, 1) := by decide +kernel
theorem dL_law_917 : decode cL_law 917 = .ok (.iaload, 1) := by decide +kernel
theorem dL_law_918 : decode cL_law 918 = .ok (.invokevirtual 122, 3) := by decide +kernel
theorem dL_law_921 : decode cL_law 921 = .ok (.pop, 1) := by decide +kernel
theorem dL_law_922 : decode cL_law 922 = .ok (.aload_n 2, 1) := by decide +kernel
theorem dL_law_923 : decode cL_law 923 = .ok (.aload_n 0, 1) := by decide +kernel
theorem dL_law_924 : decode cL_law 924 = .ok (.iload_n 3, 1) := by decide +kernel
theorem dL_law_925 : decode cL_law 925 = .ok (.iconst 1, 1) := by decide +kernel
theorem dL_law_926 : decode cL_law 926 = .ok (.iadd, 1) := by decide +kernel
theorem dL_law_927 : decode cL_law 927 = .ok (.iaload, 1) := by decide +kernel
theorem dL_law_928 : decode cL_law 928 = .ok (.aload_n 0, 1) := by decide +kernel
theorem dL_law_929 : decode cL_law 929 = .ok (.iload_n 3, 1) := by decide +kernel
theorem dL_law_930 : decode cL_law 930 = .ok (.iconst 2, 1) := by decide +kernel
theorem dL_law_931 : decode cL_law 931 = .ok (.iadd, 1) := by decide +kernel
theorem dL_law_932 : decode cL_law 932 = .ok (.iaload, 1) := by decide +kernel
theorem dL_law_933 : decode cL_law 933 = .ok (.aload_n 0, 1) := by decide +kernel
theorem dL_law_934 : decode cL_law 934 = .ok (.iload_n 3, 1) := by decide +kernel
theorem dL_law_935 : decode cL_law 935 = .ok (.iconst 3, 1) := by decide +kernel
theorem dL_law_936 : decode cL_law 936 = .ok (.iadd, 1) := by decide +kernel
theorem dL_law_937 : decode cL_law 937 = .ok (.iaload, 1) := by decide +kernel
theorem dL_law_938 : decode cL_law 938 = .ok (.invokevirtual 125, 3) := by decide +kernel
theorem dL_law_941 : decode cL_law 941 = .ok (.pop, 1) := by decide +kernel
theorem dL_law_942 : decode cL_law 942 = .ok (.goto 494, 3) := by decide +kernel
theorem dL_law_945 : decode cL_law 945 = .ok (.aload_n 1, 1) := by decide +kernel
theorem dL_law_946 : decode cL_law 946 = .ok (.aload_n 0, 1) := by decide +kernel
theorem dL_law_947 : decode cL_law 947 = .ok (.iload_n 3, 1) := by decide +kernel
theorem dL_law_948 : decode cL_law 948 = .ok (.iconst 1, 1) := by decide +kernel
theorem dL_law_949 : decode cL_law 949 = .ok (.iadd, 1) := by decide +kernel
theorem dL_law_950 : decode cL_law 950 = .ok (.iaload, 1) := by decide +kernel
theorem dL_law_951 : decode cL_law 951 = .ok (.invokevirtual 126, 3) := by decide +kernel
theorem dL_law_954 : decode cL_law 954 = .ok (.pop, 1) := by decide +kernel
theorem dL_law_955 : decode cL_law 955 = .ok (.aload_n 2, 1) := by decide +kernel
theorem dL_law_956 : decode cL_law 956 = .ok (.aload_n 0, 1) := by decide +kernel
theorem dL_law_957 : decode cL_law 957 = .ok (.iload_n 3, 1) := by decide +kernel
theorem dL_law_958 : decode cL_law 958 = .ok (.iconst 1, 1) := by decide +kernel
theorem dL_law_959 : decode cL_law 959 = .ok (.iadd, 1) := by decide +kernel
theorem dL_law_960 : decode cL_law 960 = .ok (.iaload, 1) := by decide +kernel
theorem dL_law_961 : decode cL_law 961 = .ok (.invokevirtual 129, 3) := by decide +kernel
theorem dL_law_964 : decode cL_law 964 = .ok (.pop, 1) := by decide +kernel
theorem dL_law_965 : decode cL_law 965 = .ok (.goto 471, 3) := by decide +kernel
theorem dL_law_968 : decode cL_law 968 = .ok (.aload_n 1, 1) := by decide +kernel
theorem dL_law_969 : decode cL_law 969 = .ok (.aload_n 0, 1) := by decide +kernel
theorem dL_law_970 : decode cL_law 970 = .ok (.iload_n 3, 1) := by decide +kernel
theorem dL_law_971 : decode cL_law 971 = .ok (.iconst 1, 1) := by decide +kernel
theorem dL_law_972 : decode cL_law 972 = .ok (.iadd, 1) := by decide +kernel
theorem dL_law_973 : decode cL_law 973 = .ok (.iaload, 1) := by decide +kernel
theorem dL_law_974 : decode cL_law 974 = .ok (.aload_n 0, 1) := by decide +kernel
theorem dL_law_975 : decode cL_law 975 = .ok (.iload_n 3, 1) := by decide +kernel
theorem dL_law_976 : decode cL_law 976 = .ok (.iconst 2, 1) := by decide +kernel
theorem dL_law_977 : decode cL_law 977 = .ok (.iadd, 1) := by decide +kernel
theorem dL_law_978 : decode cL_law 978 = .ok (.iaload, 1) := by decide +kernel
theorem dL_law_979 : decode cL_law 979 = .ok (.invokevirtual 130, 3) := by decide +kernel
theorem dL_law_982 : decode cL_law 982 = .ok (.pop, 1) := by decide +kernel
theorem dL_law_983 : decode cL_law 983 = .ok (.aload_n 2, 1) := by decide +kernel
theorem dL_law_984 : decode cL_law 984 = .ok (.aload_n 0, 1) := by decide +kernel
theorem dL_law_985 : decode cL_law 985 = .ok (.iload_n 3, 1) := by decide +kernel
theorem dL_law_986 : decode cL_law 986 = .ok (.iconst 1, 1) := by decide +kernel
theorem dL_law_987 : decode cL_law 987 = .ok (.iadd, 1) := by decide +kernel
theorem dL_law_988 : decode cL_law 988 = .ok (.iaload, 1) := by decide +kernel
theorem dL_law_989 : decode cL_law 989 = .ok (.aload_n 0, 1) := by decide +kernel
theorem dL_law_990 : decode cL_law 990 = .ok (.iload_n 3, 1) := by decide +kernel
theorem dL_law_991 : decode cL_law 991 = .ok (.iconst 2, 1) := by decide +kernel
theorem dL_law_992 : decode cL_law 992 = .ok (.iadd, 1) := by decide +kernel
theorem dL_law_993 : decode cL_law 993 = .ok (.iaload, 1) := by decide +kernel
theorem dL_law_994 : decode cL_law 994 = .ok (.invokevirtual 133, 3) := by decide +kernel
theorem dL_law_997 : decode cL_law 997 = .ok (.pop, 1) := by decide +kernel
theorem dL_law_998 : decode cL_law 998 = .ok (.goto 438, 3) := by decide +kernel
theorem dL_law_1001 : decode cL_law 1001 = .ok (.aload_n 1, 1) := by decide +kernel
theorem dL_law_1002 : decode cL_law 1002 = .ok (.invokevirtual 134, 3) := by decide +kernel
theorem dL_law_1005 : decode cL_law 1005 = .ok (.pop, 1) := by decide +kernel
theorem dL_law_1006 : decode cL_law 1006 = .ok (.aload_n 2, 1) := by decide +kernel
theorem dL_law_1007 : decode cL_law 1007 = .ok (.invokevirtual 137, 3) := by decide +kernel
theorem dL_law_1010 : decode cL_law 1010 = .ok (.pop, 1) := by decide +kernel
theorem dL_law_1011 : decode cL_law 1011 = .ok (.goto 425, 3) := by decide +kernel
theorem dL_law_1014 : decode cL_law 1014 = .ok (.aload_n 1, 1) := by decide +kernel
theorem dL_law_1015 : decode cL_law 1015 = .ok (.aload_n 0, 1) := by decide +kernel
theorem dL_law_1016 : decode cL_law 1016 = .ok (.iload_n 3, 1) := by decide +kernel
theorem dL_law_1017 : decode cL_law 1017 = .ok (.iconst 1, 1) := by decide +kernel
theorem dL_law_1018 : decode cL_law 1018 = .ok (.iadd, 1) := by decide +kernel
theorem dL_law_1019 : decode cL_law 1019 = .ok (.iaload, 1) := by decide +kernel
theorem dL_law_1020 : decode cL_law 1020 = .ok (.invokevirtual 138, 3) := by decide +kernel
theorem dL_law_1023 : decode cL_law 1023 = .ok (.pop, 1) := by decide +kernel
theorem dL_law_1024 : decode cL_law 1024 = .ok (.aload_n 2, 1) := by decide +kernel
theorem dL_law_1025 : decode cL_law 1025 = .ok (.aload_n 0, 1) := by decide +kernel
theorem dL_law_1026 : decode cL_law 1026 = .ok (.iload_n 3, 1) := by decide +kernel
theorem dL_law_1027 : decode cL_law 1027 = .ok (.iconst 1, 1) := by decide +kernel
theorem dL_law_1028 : decode cL_law 1028 = .ok (.iadd, 1) := by decide +kernel
theorem dL_law_1029 : decode cL_law 1029 = .ok (.iaload, 1) := by decide +kernel
theorem dL_law_1030 : decode cL_law 1030 = .ok (.invokevirtual 141, 3) := by decide +kernel
theorem dL_law_1033 : decode cL_law 1033 = .ok (.pop, 1) := by decide +kernel
theorem dL_law_1034 : decode cL_law 1034 = .ok (.goto 402, 3) := by decide +kernel
theorem dL_law_1037 : decode cL_law 1037 = .ok (.aload_n 1, 1) := by decide +kernel
theorem dL_law_1038 : decode cL_law 1038 = .ok (.aload_n 0, 1) := by decide +kernel
theorem dL_law_1039 : decode cL_law 1039 = .ok (.iload_n 3, 1) := by decide +kernel
theorem dL_law_1040 : decode cL_law 1040 = .ok (.iconst 1, 1) := by decide +kernel
theorem dL_law_1041 : decode cL_law 1041 = .ok (.iadd, 1) := by decide +kernel
theorem dL_law_1042 : decode cL_law 1042 = .ok (.iaload, 1) := by decide +kernel
theorem dL_law_1043 : decode cL_law 1043 = .ok (.invokevirtual 142, 3) := by decide +kernel
theorem dL_law_1046 : decode cL_law 1046 = .ok (.pop, 1) := by decide +kernel
theorem dL_law_1047 : decode cL_law 1047 = .ok (.aload_n 2, 1) := by decide +kernel
theorem dL_law_1048 : decode cL_law 1048 = .ok (.aload_n 0, 1) := by decide +kernel
theorem dL_law_1049 : decode cL_law 1049 = .ok (.iload_n 3, 1) := by decide +kernel
theorem dL_law_1050 : decode cL_law 1050 = .ok (.iconst 1, 1) := by decide +kernel
theorem dL_law_1051 : decode cL_law 1051 = .ok (.iadd, 1) := by decide +kernel
theorem dL_law_1052 : decode cL_law 1052 = .ok (.iaload, 1) := by decide +kernel
theorem dL_law_1053 : decode cL_law 1053 = .ok (.invokevirtual 145, 3) := by decide +kernel
theorem dL_law_1056 : decode cL_law 1056 = .ok (.pop, 1) := by decide +kernel
theorem dL_law_1057 : decode cL_law 1057 = .ok (.goto 379, 3) := by decide +kernel
theorem dL_law_1060 : decode cL_law 1060 = .ok (.aload_n 1, 1) := by decide +kernel
theorem dL_law_1061 : decode cL_law 1061 = .ok (.aload_n 0, 1) := by decide +kernel
theorem dL_law_1062 : decode cL_law 1062 = .ok (.iload_n 3, 1) := by decide +kernel
theorem dL_law_1063 : decode cL_law 1063 = .ok (.iconst 1, 1) := by decide +kernel
theorem dL_law_1064 : decode cL_law 1064 = .ok (.iadd, 1) := by decide +kernel
theorem dL_law_1065 : decode cL_law 1065 = .ok (.iaload, 1) := by decide +kernel
theorem dL_law_1066 : decode cL_law 1066 = .ok (.aload_n 0, 1) := by decide +kernel
theorem dL_law_1067 : decode cL_law 1067 = .ok (.iload_n 3, 1) := by decide +kernel
theorem dL_law_1068 : decode cL_law 1068 = .ok (.iconst 2, 1) := by decide +kernel
theorem dL_law_1069 : decode cL_law 1069 = .ok (.iadd, 1) := by decide +kernel
theorem dL_law_1070 : decode cL_law 1070 = .ok (.iaload, 1) := by decide +kernel
theorem dL_law_1071 : decode cL_law 1071 = .ok (.invokevirtual 146, 3) := by decide +kernel
theorem dL_law_1074 : decode cL_law 1074 = .ok (.pop, 1) := by decide +kernel
theorem dL_law_1075 : decode cL_law 1075 = .ok (.aload_n 2, 1) := by decide +kernel
theorem dL_law_1076 : decode cL_law 1076 = .ok (.aload_n 0, 1) := by decide +kernel
theorem dL_law_1077 : decode cL_law 1077 = .ok (.iload_n 3, 1) := by decide +kernel
theorem dL_law_1078 : decode cL_law 1078 = .ok (.iconst 1, 1) := by decide +kernel
theorem dL_law_1079 : decode cL_law 1079 = .ok (.iadd, 1) := by decide +kernel
theorem dL_law_1080 : decode cL_law 1080 = .ok (.iaload, 1) := by decide +kernel
theorem dL_law_1081 : decode cL_law 1081 = .ok (.aload_n 0, 1) := by decide +kernel
theorem dL_law_1082 : decode cL_law 1082 = .ok (.iload_n 3, 1) := by decide +kernel
theorem dL_law_1083 : decode cL_law 1083 = .ok (.iconst 2, 1) := by decide +kernel
theorem dL_law_1084 : decode cL_law 1084 = .ok (.iadd, 1) := by decide +kernel
theorem dL_law_1085 : decode cL_law 1085 = .ok (.iaload, 1) := by decide +kernel
theorem dL_law_1086 : decode cL_law 1086 = .ok (.invokevirtual 149, 3) := by decide +kernel
theorem dL_law_1089 : decode cL_law 1089 = .ok (.pop, 1) := by decide +kernel
theorem dL_law_1090 : decode cL_law 1090 = .ok (.goto 346, 3) := by decide +kernel
theorem dL_law_1093 : decode cL_law 1093 = .ok (.aload_n 1, 1) := by decide +kernel
theorem dL_law_1094 : decode cL_law 1094 = .ok (.aload_n 0, 1) := by decide +kernel
theorem dL_law_1095 : decode cL_law 1095 = .ok (.iload_n 3, 1) := by decide +kernel
theorem dL_law_1096 : decode cL_law 1096 = .ok (.iconst 1, 1) := by decide +kernel
theorem dL_law_1097 : decode cL_law 1097 = .ok (.iadd, 1) := by decide +kernel
theorem dL_law_1098 : decode cL_law 1098 = .ok (.iaload, 1) := by decide +kernel
theorem dL_law_1099 : decode cL_law 1099 = .ok (.aload_n 0, 1) := by decide +kernel
theorem dL_law_1100 : decode cL_law 1100 = .ok (.iload_n 3, 1) := by decide +kernel
theorem dL_law_1101 : decode cL_law 1101 = .ok (.iconst 2, 1) := by decide +kernel
theorem dL_law_1102 : decode cL_law 1102 = .ok (.iadd, 1) := by decide +kernel
theorem dL_law_1103 : decode cL_law 1103 = .ok (.iaload, 1) := by decide +kernel
theorem dL_law_1104 : decode cL_law 1104 = .ok (.invokevirtual 150, 3) := by decide +kernel
theorem dL_law_1107 : decode cL_law 1107 = .ok (.pop, 1) := by decide +kernel
theorem dL_law_1108 : decode cL_law 1108 = .ok (.aload_n 2, 1) := by decide +kernel
theorem dL_law_1109 : decode cL_law 1109 = .ok (.aload_n 0, 1) := by decide +kernel
theorem dL_law_1110 : decode cL_law 1110 = .ok (.iload_n 3, 1) := by decide +kernel
theorem dL_law_1111 : decode cL_law 1111 = .ok (.iconst 1, 1) := by decide +kernel
theorem dL_law_1112 : decode cL_law 1112 = .ok (.iadd, 1) := by decide +kernel
theorem dL_law_1113 : decode cL_law 1113 = .ok (.iaload, 1) := by decide +kernel
theorem dL_law_1114 : decode cL_law 1114 = .ok (.aload_n 0, 1) := by decide +kernel
theorem dL_law_1115 : decode cL_law 1115 = .ok (.iload_n 3, 1) := by decide +kernel
theorem dL_law_1116 : decode cL_law 1116 = .ok (.iconst 2, 1) := by decide +kernel
theorem dL_law_1117 : decode cL_law 1117 = .ok (.iadd, 1) := by decide +kernel
theorem dL_law_1118 : decode cL_law 1118 = .ok (.iaload, 1) := by decide +kernel
theorem dL_law_1119 : decode cL_law 1119 = .ok (.invokevirtual 153, 3) := by decide +kernel
theorem dL_law_1122 : decode cL_law 1122 = .ok (.pop, 1) := by decide +kernel
theorem dL_law_1123 : decode cL_law 1123 = .ok (.goto 313, 3) := by decide +kernel
theorem dL_law_1126 : decode cL_law 1126 = .ok (.aload_n 1, 1) := by decide +kernel
theorem dL_law_1127 : decode cL_law 1127 = .ok (.aload_n 0, 1) := by decide +kernel
theorem dL_law_1128 : decode cL_law 1128 = .ok (.iload_n 3, 1) := by decide +kernel
theorem dL_law_1129 : decode cL_law 1129 = .ok (.iconst 1, 1) := by decide +kernel
theorem dL_law_1130 : decode cL_law 1130 = .ok (.iadd, 1) := by decide +kernel
theorem dL_law_1131 : decode cL_law 1131 = .ok (.iaload, 1) := by decide +kernel
theorem dL_law_1132 : decode cL_law 1132 = .ok (.invokevirtual 154, 3) := by decide +kernel
theorem dL_law_1135 : decode cL_law 1135 = .ok (.pop, 1) := by decide +kernel
theorem dL_law_1136 : decode cL_law 1136 = .ok (.aload_n 2, 1) := by decide +kernel
theorem dL_law_1137 : decode cL_law 1137 = .ok (.aload_n 0, 1) := by decide +kernel
theorem dL_law_1138 : decode cL_law 1138 = .ok (.iload_n 3, 1) := by decide +kernel
theorem dL_law_1139 : decode cL_law 1139 = .ok (.iconst 1, 1) := by decide +kernel
theorem dL_law_1140 : decode cL_law 1140 = .ok (.iadd, 1) := by decide +kernel
theorem dL_law_1141 : decode cL_law 1141 = .ok (.iaload, 1) := by decide +kernel
theorem dL_law_1142 : decode cL_law 1142 = .ok (.invokevirtual 157, 3) := by decide +kernel
theorem dL_law_1145 : decode cL_law 1145 = .ok (.pop, 1) := by decide +kernel
theorem dL_law_1146 : decode cL_law 1146 = .ok (.goto 290, 3) := by decide +kernel
theorem dL_law_1149 : decode cL_law 1149 = .ok (.aload_n 1, 1) := by decide +kernel
theorem dL_law_1150 : decode cL_law 1150 = .ok (.aload_n 0, 1) := by decide +kernel
theorem dL_law_1151 : decode cL_law 1151 = .ok (.iload_n 3, 1) := by decide +kernel
theorem dL_law_1152 : decode cL_law 1152 = .ok (.iconst 1, 1) := by decide +kernel
theorem dL_law_1153 : decode cL_law 1153 = .ok (.iadd, 1) := by decide +kernel
theorem dL_law_1154 : decode cL_law 1154 = .ok (.iaload, 1) := by decide +kernel
theorem dL_law_1155 : decode cL_law 1155 = .ok (.invokevirtual 158, 3) := by decide +kernel
theorem dL_law_1158 : decode cL_law 1158 = .ok (.pop, 1) := by decide +kernel
theorem dL_law_1159 : decode cL_law 1159 = .ok (.aload_n 2, 1) := by decide +kernel
theorem dL_law_1160 : decode cL_law 1160 = .ok (.aload_n 0, 1) := by decide +kernel
theorem dL_law_1161 : decode cL_law 1161 = .ok (.iload_n 3, 1) := by decide +kernel
theorem dL_law_1162 : decode cL_law 1162 = .ok (.iconst 1, 1) := by decide +kernel
theorem dL_law_1163 : decode cL_law 1163 = .ok (.iadd, 1) := by decide +kernel
theorem dL_law_1164 : decode cL_law 1164 = .ok (.iaload, 1) := by decide +kernel
theorem dL_law_1165 : decode cL_law 1165 = .ok (.invokevirtual 161, 3) := by decide +kernel
theorem dL_law_1168 : decode cL_law 1168 = .ok (.pop, 1) := by decide +kernel
theorem dL_law_1169 : decode cL_law 1169 = .ok (.goto 267, 3) := by decide +kernel
theorem dL_law_1172 : decode cL_law 1172 = .ok (.aload_n 1, 1) := by decide +kernel
theorem dL_law_1173 : decode cL_law 1173 = .ok (.aload_n 0, 1) := by decide +kernel
theorem dL_law_1174 : decode cL_law 1174 = .ok (.iload_n 3, 1) := by decide +kernel
theorem dL_law_1175 : decode cL_law 1175 = .ok (.iconst 1, 1) := by decide +kernel
theorem dL_law_1176 : decode cL_law 1176 = .ok (.iadd, 1) := by decide +kernel
theorem dL_law_1177 : decode cL_law 1177 = .ok (.iaload, 1) := by decide +kernel
theorem dL_law_1178 : decode cL_law 1178 = .ok (.aload_n 0, 1) := by decide +kernel
theorem dL_law_1179 : decode cL_law 1179 = .ok (.iload_n 3, 1) := by decide +kernel
theorem dL_law_1180 : decode cL_law 1180 = .ok (.iconst 2, 1) := by decide +kernel
theorem dL_law_1181 : decode cL_law 1181 = .ok (.iadd, 1) := by decide +kernel
theorem dL_law_1182 : decode cL_law 1182 = .ok (.iaload, 1) := by decide +kernel
theorem dL_law_1183 : decode cL_law 1183 = .ok (.invokevirtual 162, 3) := by decide +kernel
theorem dL_law_1186 : decode cL_law 1186 = .ok (.pop, 1) := by decide +kernel
theorem dL_law_1187 : decode cL_law 1187 = .ok (.aload_n 2, 1) := by decide +kernel
theorem dL_law_1188 : decode cL_law 1188 = .ok (.aload_n 0, 1) := by decide +kernel
theorem dL_law_1189 : decode cL_law 1189 = .ok (.iload_n 3, 1) := by decide +kernel
theorem dL_law_1190 : decode cL_law 1190 = .ok (.iconst 1, 1) := by decide +kernel
theorem dL_law_1191 : decode cL_law 1191 = .ok (.iadd, 1) := by decide +kernel
theorem dL_law_1192 : decode cL_law 1192 = .ok (.iaload, 1) := by decide +kernel
theorem dL_law_1193 : decode cL_law 1193 = .ok (.aload_n 0, 1) := by decide +kernel
theorem dL_law_1194 : decode cL_law 1194 = .ok (.iload_n 3, 1) := by decide +kernel
theorem dL_law_1195 : decode cL_law 1195 = .ok (.iconst 2, 1) := by decide +kernel
theorem dL_law_1196 : decode cL_law 1196 = .ok (.iadd, 1) := by decide +kernel
theorem dL_law_1197 : decode cL_law 1197 = .ok (.iaload, 1) := by decide +kernel
theorem dL_law_1198 : decode cL_law 1198 = .ok (.invokevirtual 165, 3) := by decide +kernel
theorem dL_law_1201 : decode cL_law 1201 = .ok (.pop, 1) := by decide +kernel
theorem dL_law_1202 : decode cL_law 1202 = .ok (.goto 234, 3) := by decide +kernel
theorem dL_law_1205 : decode cL_law 1205 = .ok (.aload_n 1, 1) := by decide +kernel
theorem dL_law_1206 : decode cL_law 1206 = .ok (.aload_n 0, 1) := by decide +kernel
theorem dL_law_1207 : decode cL_law 1207 = .ok (.iload_n 3, 1) := by decide +kernel
theorem dL_law_1208 : decode cL_law 1208 = .ok (.iconst 1, 1) := by decide +kernel
theorem dL_law_1209 : decode cL_law 1209 = .ok (.iadd, 1) := by decide +kernel
theorem dL_law_1210 : decode cL_law 1210 = .ok (.iaload, 1) := by decide +kernel
theorem dL_law_1211 : decode cL_law 1211 = .ok (.aload_n 0, 1) := by decide +kernel
theorem dL_law_1212 : decode cL_law 1212 = .ok (.iload_n 3, 1) := by decide +kernel
theorem dL_law_1213 : decode cL_law 1213 = .ok (.iconst 2, 1) := by decide +kernel
theorem dL_law_1214 : decode cL_law 1214 = .ok (.iadd, 1) := by decide +kernel
theorem dL_law_1215 : decode cL_law 1215 = .ok (.iaload, 1) := by decide +kernel
theorem dL_law_1216 : decode cL_law 1216 = .ok (.aload_n 0, 1) := by decide +kernel
theorem dL_law_1217 : decode cL_law 1217 = .ok (.iload_n 3, 1) := by decide +kernel
theorem dL_law_1218 : decode cL_law 1218 = .ok (.iconst 3, 1) := by decide +kernel
theorem dL_law_1219 : decode cL_law 1219 = .ok (.iadd, 1) := by decide +kernel
theorem dL_law_1220 : decode cL_law 1220 = .ok (.iaload, 1) := by decide +kernel
theorem dL_law_1221 : decode cL_law 1221 = .ok (.invokevirtual 166, 3) := by decide +kernel
theorem dL_law_1224 : decode cL_law 1224 = .ok (.pop, 1) := by decide +kernel
theorem dL_law_1225 : decode cL_law 1225 = .ok (.aload_n 2, 1) := by decide +kernel
theorem dL_law_1226 : decode cL_law 1226 = .ok (.aload_n 0, 1) := by decide +kernel
theorem dL_law_1227 : decode cL_law 1227 = .ok (.iload_n 3, 1) := by decide +kernel
theorem dL_law_1228 : decode cL_law 1228 = .ok (.iconst 1, 1) := by decide +kernel
theorem dL_law_1229 : decode cL_law 1229 = .ok (.iadd, 1) := by decide +kernel
theorem dL_law_1230 : decode cL_law 1230 = .ok (.iaload, 1) := by decide +kernel
theorem dL_law_1231 : decode cL_law 1231 = .ok (.aload_n 0, 1) := by decide +kernel
theorem dL_law_1232 : decode cL_law 1232 = .ok (.iload_n 3, 1) := by decide +kernel
theorem dL_law_1233 : decode cL_law 1233 = .ok (.iconst 2, 1) := by decide +kernel
theorem dL_law_1234 : decode cL_law 1234 = .ok (.iadd, 1) := by decide +kernel
theorem dL_law_1235 : decode cL_law 1235 = .ok (.iaload, 1) := by decide +kernel
theorem dL_law_1236 : decode cL_law 1236 = .ok (.aload_n 0, 1) := by decide +kernel
theorem dL_law_1237 : decode cL_law 1237 = .ok (.iload_n 3, 1) := by decide +kernel
theorem dL_law_1238 : decode cL_law 1238 = .ok (.iconst 3, 1) := by decide +kernel
theorem dL_law_1239 : decode cL_law 1239 = .ok (.iadd, 1) := by decide +kernel
theorem dL_law_1240 : decode cL_law 1240 = .ok (.iaload, 1) := by decide +kernel
theorem dL_law_1241 : decode cL_law 1241 = .ok (.invokevirtual 169, 3) := by decide +kernel
theorem dL_law_1244 : decode cL_law 1244 = .ok (.pop, 1) := by decide +kernel
theorem dL_law_1245 : decode cL_law 1245 = .ok (.goto 191, 3) := by decide +kernel
theorem dL_law_1248 : decode cL_law 1248 = .ok (.aload_n 1, 1) := by decide +kernel
theorem dL_law_1249 : decode cL_law 1249 = .ok (.aload_n 0, 1) := by decide +kernel
theorem dL_law_1250 : decode cL_law 1250 = .ok (.iload_n 3, 1) := by decide +kernel
theorem dL_law_1251 : decode cL_law 1251 = .ok (.iconst 1, 1) := by decide +kernel
theorem dL_law_1252 : decode cL_law 1252 = .ok (.iadd, 1) := by decide +kernel
theorem dL_law_1253 : decode cL_law 1253 = .ok (.iaload, 1) := by decide +kernel
theorem dL_law_1254 : decode cL_law 1254 = .ok (.aload_n 0, 1) := by decide +kernel
theorem dL_law_1255 : decode cL_law 1255 = .ok (.iload_n 3, 1) := by decide +kernel
theorem dL_law_1256 : decode cL_law 1256 = .ok (.iconst 2, 1) := by decide +kernel
theorem dL_law_1257 : decode cL_law 1257 = .ok (.iadd, 1) := by decide +kernel
theorem dL_law_1258 : decode cL_law 1258 = .ok (.iaload, 1) := by decide +kernel
theorem dL_law_1259 : decode cL_law 1259 = .ok (.invokevirtual 170, 3) := by decide +kernel
theorem dL_law_1262 : decode cL_law 1262 = .ok (.pop2, 1) := by decide +kernel
theorem dL_law_1263 : decode cL_law 1263 = .ok (.aload_n 2, 1) := by decide +kernel
theorem dL_law_1264 : decode cL_law 1264 = .ok (.aload_n 0, 1) := by decide +kernel
theorem dL_law_1265 : decode cL_law 1265 = .ok (.iload_n 3, 1) := by decide +kernel
theorem dL_law_1266 : decode cL_law 1266 = .ok (.iconst 1, 1) := by decide +kernel
theorem dL_law_1267 : decode cL_law 1267 = .ok (.iadd, 1) := by decide +kernel
theorem dL_law_1268 : decode cL_law 1268 = .ok (.iaload, 1) := by decide +kernel
theorem dL_law_1269 : decode cL_law 1269 = .ok (.aload_n 0, 1) := by decide +kernel
theorem dL_law_1270 : decode cL_law 1270 = .ok (.iload_n 3, 1) := by decide +kernel
theorem dL_law_1271 : decode cL_law 1271 = .ok (.iconst 2, 1) := by decide +kernel
theorem dL_law_1272 : decode cL_law 1272 = .ok (.iadd, 1) := by decide +kernel
theorem dL_law_1273 : decode cL_law 1273 = .ok (.iaload, 1) := by decide +kernel
theorem dL_law_1274 : decode cL_law 1274 = .ok (.invokevirtual 174, 3) := by decide +kernel
theorem dL_law_1277 : decode cL_law 1277 = .ok (.pop2, 1) := by decide +kernel
theorem dL_law_1278 : decode cL_law 1278 = .ok (.goto 158, 3) := by decide +kernel
theorem dL_law_1281 : decode cL_law 1281 = .ok (.aload_n 1, 1) := by decide +kernel
theorem dL_law_1282 : decode cL_law 1282 = .ok (.aload_n 0, 1) := by decide +kernel
theorem dL_law_1283 : decode cL_law 1283 = .ok (.iload_n 3, 1) := by decide +kernel
theorem dL_law_1284 : decode cL_law 1284 = .ok (.iconst 1, 1) := by decide +kernel
theorem dL_law_1285 : decode cL_law 1285 = .ok (.iadd, 1) := by decide +kernel
theorem dL_law_1286 : decode cL_law 1286 = .ok (.iaload, 1) := by decide +kernel
theorem dL_law_1287 : decode cL_law 1287 = .ok (.aload_n 0, 1) := by decide +kernel
theorem dL_law_1288 : decode cL_law 1288 = .ok (.iload_n 3, 1) := by decide +kernel
theorem dL_law_1289 : decode cL_law 1289 = .ok (.iconst 2, 1) := by decide +kernel
theorem dL_law_1290 : decode cL_law 1290 = .ok (.iadd, 1) := by decide +kernel
theorem dL_law_1291 : decode cL_law 1291 = .ok (.iaload, 1) := by decide +kernel
theorem dL_law_1292 : decode cL_law 1292 = .ok (.aload_n 0, 1) := by decide +kernel
theorem dL_law_1293 : decode cL_law 1293 = .ok (.iload_n 3, 1) := by decide +kernel
theorem dL_law_1294 : decode cL_law 1294 = .ok (.iconst 3, 1) := by decide +kernel
theorem dL_law_1295 : decode cL_law 1295 = .ok (.iadd, 1) := by decide +kernel
theorem dL_law_1296 : decode cL_law 1296 = .ok (.iaload, 1) := by decide +kernel
theorem dL_law_1297 : decode cL_law 1297 = .ok (.aload_n 0, 1) := by decide +kernel
theorem dL_law_1298 : decode cL_law 1298 = .ok (.iload_n 3, 1) := by decide +kernel
theorem dL_law_1299 : decode cL_law 1299 = .ok (.iconst 4, 1) := by decide +kernel
theorem dL_law_1300 : decode cL_law 1300 = .ok (.iadd, 1) := by decide +kernel
theorem dL_law_1301 : decode cL_law 1301 = .ok (.iaload, 1) := by decide +kernel
theorem dL_law_1302 : decode cL_law 1302 = .ok (.aload_n 0, 1) := by decide +kernel
theorem dL_law_1303 : decode cL_law 1303 = .ok (.iload_n 3, 1) := by decide +kernel
theorem dL_law_1304 : decode cL_law 1304 = .ok (.iconst 5, 1) := by decide +kernel
theorem dL_law_1305 : decode cL_law 1305 = .ok (.iadd, 1) := by decide +kernel
theorem dL_law_1306 : decode cL_law 1306 = .ok (.iaload, 1) := by decide +kernel
theorem dL_law_1307 : decode cL_law 1307 = .ok (.invokevirtual 175, 3) := by decide +kernel
theorem dL_law_1310 : decode cL_law 1310 = .ok (.pop, 1) := by decide +kernel
theorem dL_law_1311 : decode cL_law 1311 = .ok (.aload_n 2, 1) := by decide +kernel
theorem dL_law_1312 : decode cL_law 1312 = .ok (.aload_n 0, 1) := by decide +kernel
theorem dL_law_1313 : decode cL_law 1313 = .ok (.iload_n 3, 1) := by decide +kernel
theorem dL_law_1314 : decode cL_law 1314 = .ok (.iconst 1, 1) := by decide +kernel
theorem dL_law_1315 : decode cL_law 1315 = .ok (.iadd, 1) := by decide +kernel
theorem dL_law_1316 : decode cL_law 1316 = .ok (.iaload, 1) := by decide +kernel
theorem dL_law_1317 : decode cL_law 1317 = .ok (.aload_n 0, 1) := by decide +kernel
theorem dL_law_1318 : decode cL_law 1318 = .ok (.iload_n 3, 1) := by decide +kernel
theorem dL_law_1319 : decode cL_law 1319 = .ok (.iconst 2, 1) := by decide +kernel
theorem dL_law_1320 : decode cL_law 1320 = .ok (.iadd, 1) := by decide +kernel
theorem dL_law_1321 : decode cL_law 1321 = .ok (.iaload, 1) := by decide +kernel
theorem dL_law_1322 : decode cL_law 1322 = .ok (.aload_n 0, 1) := by decide +kernel
theorem dL_law_1323 : decode cL_law 1323 = .ok (.iload_n 3, 1) := by decide +kernel
theorem dL_law_1324 : decode cL_law 1324 = .ok (.iconst 3, 1) := by decide +kernel
theorem dL_law_1325 : decode cL_law 1325 = .ok (.iadd, 1) := by decide +kernel
theorem dL_law_1326 : decode cL_law 1326 = .ok (.iaload, 1) := by decide +kernel
theorem dL_law_1327 : decode cL_law 1327 = .ok (.aload_n 0, 1) := by decide +kernel
theorem dL_law_1328 : decode cL_law 1328 = .ok (.iload_n 3, 1) := by decide +kernel
theorem dL_law_1329 : decode cL_law 1329 = .ok (.iconst 4, 1) := by decide +kernel
theorem dL_law_1330 : decode cL_law 1330 = .ok (.iadd, 1) := by decide +kernel
theorem dL_law_1331 : decode cL_law 1331 = .ok (.iaload, 1) := by decide +kernel
theorem dL_law_1332 : decode cL_law 1332 = .ok (.aload_n 0, 1) := by decide +kernel
theorem dL_law_1333 : decode cL_law 1333 = .ok (.iload_n 3, 1) := by decide +kernel
theorem dL_law_1334 : decode cL_law 1334 = .ok (.iconst 5, 1) := by decide +kernel
theorem dL_law_1335 : decode cL_law 1335 = .ok (.iadd, 1) := by decide +kernel
theorem dL_law_1336 : decode cL_law 1336 = .ok (.iaload, 1) := by decide +kernel
theorem dL_law_1337 : decode cL_law 1337 = .ok (.invokevirtual 179, 3) := by decide +kernel
theorem dL_law_1340 : decode cL_law 1340 = .ok (.pop, 1) := by decide +kernel
theorem dL_law_1341 : decode cL_law 1341 = .ok (.goto 95, 3) := by decide +kernel
theorem dL_law_1344 : decode cL_law 1344 = .ok (.aload_n 1, 1) := by decide +kernel
theorem dL_law_1345 : decode cL_law 1345 = .ok (.aload_n 0, 1) := by decide +kernel
theorem dL_law_1346 : decode cL_law 1346 = .ok (.iload_n 3, 1) := by decide +kernel
theorem dL_law_1347 : decode cL_law 1347 = .ok (.iconst 1, 1) := by decide +kernel
theorem dL_law_1348 : decode cL_law 1348 = .ok (.iadd, 1) := by decide +kernel
theorem dL_law_1349 : decode cL_law 1349 = .ok (.iaload, 1) := by decide +kernel
theorem dL_law_1350 : decode cL_law 1350 = .ok (.aload_n 0, 1) := by decide +kernel
theorem dL_law_1351 : decode cL_law 1351 = .ok (.iload_n 3, 1) := by decide +kernel
theorem dL_law_1352 : decode cL_law 1352 = .ok (.iconst 2, 1) := by decide +kernel
theorem dL_law_1353 : decode cL_law 1353 = .ok (.iadd, 1) := by decide +kernel
theorem dL_law_1354 : decode cL_law 1354 = .ok (.iaload, 1) := by decide +kernel
theorem dL_law_1355 : decode cL_law 1355 = .ok (.invokevirtual 180, 3) := by decide +kernel
theorem dL_law_1358 : decode cL_law 1358 = .ok (.pop, 1) := by decide +kernel
theorem dL_law_1359 : decode cL_law 1359 = .ok (.aload_n 2, 1) := by decide +kernel
theorem dL_law_1360 : decode cL_law 1360 = .ok (.aload_n 0, 1) := by decide +kernel
theorem dL_law_1361 : decode cL_law 1361 = .ok (.iload_n 3, 1) := by decide +kernel
theorem dL_law_1362 : decode cL_law 1362 = .ok (.iconst 1, 1) := by decide +kernel
theorem dL_law_1363 : decode cL_law 1363 = .ok (.iadd, 1) := by decide +kernel
theorem dL_law_1364 : decode cL_law 1364 = .ok (.iaload, 1) := by decide +kernel
theorem dL_law_1365 : decode cL_law 1365 = .ok (.aload_n 0, 1) := by decide +kernel
theorem dL_law_1366 : decode cL_law 1366 = .ok (.iload_n 3, 1) := by decide +kernel
theorem dL_law_1367 : decode cL_law 1367 = .ok (.iconst 2, 1) := by decide +kernel
theorem dL_law_1368 : decode cL_law 1368 = .ok (.iadd, 1) := by decide +kernel
theorem dL_law_1369 : decode cL_law 1369 = .ok (.iaload, 1) := by decide +kernel
theorem dL_law_1370 : decode cL_law 1370 = .ok (.invokevirtual 183, 3) := by decide +kernel
theorem dL_law_1373 : decode cL_law 1373 = .ok (.pop, 1) := by decide +kernel
theorem dL_law_1374 : decode cL_law 1374 = .ok (.goto 62, 3) := by decide +kernel
theorem dL_law_1377 : decode cL_law 1377 = .ok (.aload_n 1, 1) := by decide +kernel
theorem dL_law_1378 : decode cL_law 1378 = .ok (.aload_n 0, 1) := by decide +kernel
theorem dL_law_1379 : decode cL_law 1379 = .ok (.iload_n 3, 1) := by decide +kernel
theorem dL_law_1380 : decode cL_law 1380 = .ok (.iconst 1, 1) := by decide +kernel
theorem dL_law_1381 : decode cL_law 1381 = .ok (.iadd, 1) := by decide +kernel
theorem dL_law_1382 : decode cL_law 1382 = .ok (.iaload, 1) := by decide +kernel
theorem dL_law_1383 : decode cL_law 1383 = .ok (.aload_n 0, 1) := by decide +kernel
theorem dL_law_1384 : decode cL_law 1384 = .ok (.iload_n 3, 1) := by decide +kernel
theorem dL_law_1385 : decode cL_law 1385 = .ok (.iconst 2, 1) := by decide +kernel
theorem dL_law_1386 : decode cL_law 1386 = .ok (.iadd, 1) := by decide +kernel
theorem dL_law_1387 : decode cL_law 1387 = .ok (.iaload, 1) := by decide +kernel
theorem dL_law_1388 : decode cL_law 1388 = .ok (.invokevirtual 184, 3) := by decide +kernel
theorem dL_law_1391 : decode cL_law 1391 = .ok (.pop, 1) := by decide +kernel
theorem dL_law_1392 : decode cL_law 1392 = .ok (.aload_n 2, 1) := by decide +kernel
theorem dL_law_1393 : decode cL_law 1393 = .ok (.aload_n 0, 1) := by decide +kernel
theorem dL_law_1394 : decode cL_law 1394 = .ok (.iload_n 3, 1) := by decide +kernel
theorem dL_law_1395 : decode cL_law 1395 = .ok (.iconst 1, 1) := by decide +kernel
theorem dL_law_1396 : decode cL_law 1396 = .ok (.iadd, 1) := by decide +kernel
theorem dL_law_1397 : decode cL_law 1397 = .ok (.iaload, 1) := by decide +kernel
theorem dL_law_1398 : decode cL_law 1398 = .ok (.aload_n 0, 1) := by decide +kernel
theorem dL_law_1399 : decode cL_law 1399 = .ok (.iload_n 3, 1) := by decide +kernel
theorem dL_law_1400 : decode cL_law 1400 = .ok (.iconst 2, 1) := by decide +kernel
theorem dL_law_1401 : decode cL_law 1401 = .ok (.iadd, 1) := by decide +kernel
theorem dL_law_1402 : decode cL_law 1402 = .ok (.iaload, 1) := by decide +kernel
theorem dL_law_1403 : decode cL_law 1403 = .ok (.invokevirtual 187, 3) := by decide +kernel
theorem dL_law_1406 : decode cL_law 1406 = .ok (.pop, 1) := by decide +kernel
theorem dL_law_1407 : decode cL_law 1407 = .ok (.goto 29, 3) := by decide +kernel
theorem dL_law_1410 : decode cL_law 1410 = .ok (.aload_n 1, 1) := by decide +kernel
theorem dL_law_1411 : decode cL_law 1411 = .ok (.invokevirtual 188, 3) := by decide +kernel
theorem dL_law_1414 : decode cL_law 1414 = .ok (.pop, 1) := by decide +kernel
theorem dL_law_1415 : decode cL_law 1415 = .ok (.aload_n 2, 1) := by decide +kernel
theorem dL_law_1416 : decode cL_law 1416 = .ok (.invokevirtual 191, 3) := by decide +kernel
theorem dL_law_1419 : decode cL_law 1419 = .ok (.pop, 1) := by decide +kernel
theorem dL_law_1420 : decode cL_law 1420 = .ok (.goto 16, 3) := by decide +kernel
theorem dL_law_1423 : decode cL_law 1423 = .ok (.aload_n 1, 1) := by decide +kernel
theorem dL_law_1424 : decode cL_law 1424 = .ok (.invokevirtual 192, 3) := by decide +kernel
theorem dL_law_1427 : decode cL_law 1427 = .ok (.pop, 1) := by decide +kernel
theorem dL_law_1428 : decode cL_law 1428 = .ok (.aload_n 2, 1) := by decide +kernel
theorem dL_law_1429 : decode cL_law 1429 = .ok (.invokevirtual 195, 3) := by decide +kernel
theorem dL_law_1432 : decode cL_law 1432 = .ok (.pop, 1) := by decide +kernel
theorem dL_law_1433 : decode cL_law 1433 = .ok (.goto 3, 3) := by decide +kernel
theorem dL_law_1436 : decode cL_law 1436 = .ok (.iinc 3 6, 3) := by decide +kernel
theorem dL_law_1439 : decode cL_law 1439 = .ok (.goto (-1421), 3) := by decide +kernel
theorem dL_law_1442 : decode cL_law 1442 = .ok (.iconst 1, 1) := by decide +kernel
theorem dL_law_1443 : decode cL_law 1443 = .ok (.ireturn, 1) := by decide +kernel
